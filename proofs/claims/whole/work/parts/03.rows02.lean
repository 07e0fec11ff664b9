theorem dX0_attacks_59 : decode cX0_attacks 59 = .ok (.iload 4, 2) := by decide +kernel
theorem dX0_attacks_61 : decode cX0_attacks 61 = .ok (.iload 5, 2) := by decide +kernel
theorem dX0_attacks_63 : decode cX0_attacks 63 = .ok (.if_icmp .ne 7, 3) := by decide +kernel
theorem dX0_attacks_66 : decode cX0_attacks 66 = .ok (.iconst 1, 1) := by decide +kernel
theorem dX0_attacks_67 : decode cX0_attacks 67 = .ok (.goto 4, 3) := by decide +kernel
theorem dX0_attacks_70 : decode cX0_attacks 70 = .ok (.iconst 0, 1) := by decide +kernel
theorem dX0_attacks_71 : decode cX0_attacks 71 = .ok (.istore 7, 2) := by decide +kernel
theorem dX0_attacks_73 : decode cX0_attacks 73 = .ok (.iload_n 3, 1) := by decide +kernel
theorem dX0_attacks_74 : decode cX0_attacks 74 = .ok (.invokestatic 108, 3) := by decide +kernel
theorem dX0_attacks_77 : decode cX0_attacks 77 = .ok (.tableswitch 147 1 6 #[39, 49, 64, 84, 104, 129], 39) := by decide +kernel
theorem dX0_attacks_116 : decode cX0_attacks 116 = .ok (.iload_n 3, 1) := by decide +kernel
theorem dX0_attacks_117 : decode cX0_attacks 117 = .ok (.invokestatic 105, 3) := by decide +kernel
theorem dX0_attacks_120 : decode cX0_attacks 120 = .ok (.iload_n 1, 1) := by decide +kernel
theorem dX0_attacks_121 : decode cX0_attacks 121 = .ok (.iload_n 2, 1) := by decide +kernel
theorem dX0_attacks_122 : decode cX0_attacks 122 = .ok (.invokestatic 213, 3) := by decide +kernel
theorem dX0_attacks_125 : decode cX0_attacks 125 = .ok (.ireturn, 1) := by decide +kernel
theorem dX0_attacks_126 : decode cX0_attacks 126 = .ok (.iload 4, 2) := by decide +kernel
theorem dX0_attacks_128 : decode cX0_attacks 128 = .ok (.iload 5, 2) := by decide +kernel
theorem dX0_attacks_130 : decode cX0_attacks 130 = .ok (.imul, 1) := by decide +kernel
theorem dX0_attacks_131 : decode cX0_attacks 131 = .ok (.iconst 2, 1) := by decide +kernel
theorem dX0_attacks_132 : decode cX0_attacks 132 = .ok (.if_icmp .ne 7, 3) := by decide +kernel
theorem dX0_attacks_135 : decode cX0_attacks 135 = .ok (.iconst 1, 1) := by decide +kernel
theorem dX0_attacks_136 : decode cX0_attacks 136 = .ok (.goto 4, 3) := by decide +kernel
theorem dX0_attacks_139 : decode cX0_attacks 139 = .ok (.iconst 0, 1) := by decide +kernel
theorem dX0_attacks_140 : decode cX0_attacks 140 = .ok (.ireturn, 1) := by decide +kernel
theorem dX0_attacks_141 : decode cX0_attacks 141 = .ok (.iload 7, 2) := by decide +kernel
theorem dX0_attacks_143 : decode cX0_attacks 143 = .ok (.ifCond .eq 16, 3) := by decide +kernel
theorem dX0_attacks_146 : decode cX0_attacks 146 = .ok (.aload_n 0, 1) := by decide +kernel
theorem dX0_attacks_147 : decode cX0_attacks 147 = .ok (.iload_n 1, 1) := by decide +kernel
theorem dX0_attacks_148 : decode cX0_attacks 148 = .ok (.iload_n 2, 1) := by decide +kernel
theorem dX0_attacks_149 : decode cX0_attacks 149 = .ok (.invokevirtual 234, 3) := by decide +kernel
theorem dX0_attacks_152 : decode cX0_attacks 152 = .ok (.ifCond .eq 7, 3) := by decide +kernel
theorem dX0_attacks_155 : decode cX0_attacks 155 = .ok (.iconst 1, 1) := by decide +kernel
theorem dX0_attacks_156 : decode cX0_attacks 156 = .ok (.goto 4, 3) := by decide +kernel
theorem dX0_attacks_159 : decode cX0_attacks 159 = .ok (.iconst 0, 1) := by decide +kernel
theorem dX0_attacks_160 : decode cX0_attacks 160 = .ok (.ireturn, 1) := by decide +kernel
theorem dX0_attacks_161 : decode cX0_attacks 161 = .ok (.iload 6, 2) := by decide +kernel
theorem dX0_attacks_163 : decode cX0_attacks 163 = .ok (.ifCond .eq 16, 3) := by decide +kernel
theorem dX0_attacks_166 : decode cX0_attacks 166 = .ok (.aload_n 0, 1) := by decide +kernel
theorem dX0_attacks_167 : decode cX0_attacks 167 = .ok (.iload_n 1, 1) := by decide +kernel
theorem dX0_attacks_168 : decode cX0_attacks 168 = .ok (.iload_n 2, 1) := by decide +kernel
theorem dX0_attacks_169 : decode cX0_attacks 169 = .ok (.invokevirtual 234, 3) := by decide +kernel
theorem dX0_attacks_172 : decode cX0_attacks 172 = .ok (.ifCond .eq 7, 3) := by decide +kernel
theorem dX0_attacks_175 : decode cX0_attacks 175 = .ok (.iconst 1, 1) := by decide +kernel
theorem dX0_attacks_176 : decode cX0_attacks 176 = .ok (.goto 4, 3) := by decide +kernel
theorem dX0_attacks_179 : decode cX0_attacks 179 = .ok (.iconst 0, 1) := by decide +kernel
theorem dX0_attacks_180 : decode cX0_attacks 180 = .ok (.ireturn, 1) := by decide +kernel
theorem dX0_attacks_181 : decode cX0_attacks 181 = .ok (.iload 6, 2) := by decide +kernel
theorem dX0_attacks_183 : decode cX0_attacks 183 = .ok (.ifCond .ne 8, 3) := by decide +kernel
theorem dX0_attacks_186 : decode cX0_attacks 186 = .ok (.iload 7, 2) := by decide +kernel
theorem dX0_attacks_188 : decode cX0_attacks 188 = .ok (.ifCond .eq 16, 3) := by decide +kernel
theorem dX0_attacks_191 : decode cX0_attacks 191 = .ok (.aload_n 0, 1) := by decide +kernel
theorem dX0_attacks_192 : decode cX0_attacks 192 = .ok (.iload_n 1, 1) := by decide +kernel
theorem dX0_attacks_193 : decode cX0_attacks 193 = .ok (.iload_n 2, 1) := by decide +kernel
theorem dX0_attacks_194 : decode cX0_attacks 194 = .ok (.invokevirtual 234, 3) := by decide +kernel
theorem dX0_attacks_197 : decode cX0_attacks 197 = .ok (.ifCond .eq 7, 3) := by decide +kernel
theorem dX0_attacks_200 : decode cX0_attacks 200 = .ok (.iconst 1, 1) := by decide +kernel
theorem dX0_attacks_201 : decode cX0_attacks 201 = .ok (.goto 4, 3) := by decide +kernel
theorem dX0_attacks_204 : decode cX0_attacks 204 = .ok (.iconst 0, 1) := by decide +kernel
theorem dX0_attacks_205 : decode cX0_attacks 205 = .ok (.ireturn, 1) := by decide +kernel
theorem dX0_attacks_206 : decode cX0_attacks 206 = .ok (.iload 4, 2) := by decide +kernel
theorem dX0_attacks_208 : decode cX0_attacks 208 = .ok (.iconst 1, 1) := by decide +kernel
theorem dX0_attacks_209 : decode cX0_attacks 209 = .ok (.if_icmp .gt 13, 3) := by decide +kernel
theorem dX0_attacks_212 : decode cX0_attacks 212 = .ok (.iload 5, 2) := by decide +kernel
theorem dX0_attacks_214 : decode cX0_attacks 214 = .ok (.iconst 1, 1) := by decide +kernel
theorem dX0_attacks_215 : decode cX0_attacks 215 = .ok (.if_icmp .gt 7, 3) := by decide +kernel
theorem dX0_attacks_218 : decode cX0_attacks 218 = .ok (.iconst 1, 1) := by decide +kernel
theorem dX0_attacks_219 : decode cX0_attacks 219 = .ok (.goto 4, 3) := by decide +kernel
theorem dX0_attacks_222 : decode cX0_attacks 222 = .ok (.iconst 0, 1) := by decide +kernel
theorem dX0_attacks_223 : decode cX0_attacks 223 = .ok (.ireturn, 1) := by decide +kernel
theorem dX0_attacks_224 : decode cX0_attacks 224 = .ok (.iconst 0, 1) := by decide +kernel
theorem dX0_attacks_225 : decode cX0_attacks 225 = .ok (.ireturn, 1) := by decide +kernel
set_option maxRecDepth 20000 in
theorem ggX0_pawnAttacks_X0_rankOf : GoodIn wsX0_pawnAttacks wsX0_rankOf := goodIn_r _ [8] (by decide +kernel) (by decide +kernel)
set_option maxRecDepth 20000 in
theorem gX0_pawnAttacks_X0_rankOf : GoodIn wsX0_pawnAttacks (va_wsS RX0 189 yX0_rankOf wsX0_rankOf) := goodIn_app (goodIn_of _ (by decide +kernel)) ggX0_pawnAttacks_X0_rankOf
set_option maxRecDepth 20000 in
theorem ggX0_pawnAttacks_X0_onward : GoodIn wsX0_pawnAttacks wsX0_onward := goodIn_r _ [11] (by decide +kernel) (by decide +kernel)
set_option maxRecDepth 20000 in
theorem gX0_pawnAttacks_X0_onward : GoodIn wsX0_pawnAttacks (va_wsS RX0 204 yX0_onward wsX0_onward) := goodIn_app (goodIn_of _ (by decide +kernel)) ggX0_pawnAttacks_X0_onward
set_option maxRecDepth 20000 in
theorem ggX0_pawnAttacks_X0_fileOf : GoodIn wsX0_pawnAttacks wsX0_fileOf := goodIn_r _ [14] (by decide +kernel) (by decide +kernel)
set_option maxRecDepth 20000 in
theorem gX0_pawnAttacks_X0_fileOf : GoodIn wsX0_pawnAttacks (va_wsS RX0 237 yX0_fileOf wsX0_fileOf) := goodIn_app (goodIn_of _ (by decide +kernel)) ggX0_pawnAttacks_X0_fileOf
theorem dX0_pawnAttacks_0 : decode cX0_pawnAttacks 0 = .ok (.iload_n 2, 1) := by decide +kernel
theorem dX0_pawnAttacks_1 : decode cX0_pawnAttacks 1 = .ok (.invokestatic 189, 3) := by decide +kernel
theorem dX0_pawnAttacks_4 : decode cX0_pawnAttacks 4 = .ok (.iload_n 1, 1) := by decide +kernel
theorem dX0_pawnAttacks_5 : decode cX0_pawnAttacks 5 = .ok (.invokestatic 189, 3) := by decide +kernel
theorem dX0_pawnAttacks_8 : decode cX0_pawnAttacks 8 = .ok (.isub, 1) := by decide +kernel
theorem dX0_pawnAttacks_9 : decode cX0_pawnAttacks 9 = .ok (.iload_n 0, 1) := by decide +kernel
theorem dX0_pawnAttacks_10 : decode cX0_pawnAttacks 10 = .ok (.invokestatic 204, 3) := by decide +kernel
theorem dX0_pawnAttacks_13 : decode cX0_pawnAttacks 13 = .ok (.if_icmp .ne 23, 3) := by decide +kernel
theorem dX0_pawnAttacks_16 : decode cX0_pawnAttacks 16 = .ok (.iload_n 2, 1) := by decide +kernel
theorem dX0_pawnAttacks_17 : decode cX0_pawnAttacks 17 = .ok (.invokestatic 237, 3) := by decide +kernel
theorem dX0_pawnAttacks_20 : decode cX0_pawnAttacks 20 = .ok (.iload_n 1, 1) := by decide +kernel
theorem dX0_pawnAttacks_21 : decode cX0_pawnAttacks 21 = .ok (.invokestatic 237, 3) := by decide +kernel
theorem dX0_pawnAttacks_24 : decode cX0_pawnAttacks 24 = .ok (.isub, 1) := by decide +kernel
theorem dX0_pawnAttacks_25 : decode cX0_pawnAttacks 25 = .ok (.invokestatic 240, 3) := by decide +kernel
theorem dX0_pawnAttacks_28 : decode cX0_pawnAttacks 28 = .ok (.iconst 1, 1) := by decide +kernel
theorem dX0_pawnAttacks_29 : decode cX0_pawnAttacks 29 = .ok (.if_icmp .ne 7, 3) := by decide +kernel
theorem dX0_pawnAttacks_32 : decode cX0_pawnAttacks 32 = .ok (.iconst 1, 1) := by decide +kernel
theorem dX0_pawnAttacks_33 : decode cX0_pawnAttacks 33 = .ok (.goto 4, 3) := by decide +kernel
theorem dX0_pawnAttacks_36 : decode cX0_pawnAttacks 36 = .ok (.iconst 0, 1) := by decide +kernel
theorem dX0_pawnAttacks_37 : decode cX0_pawnAttacks 37 = .ok (.ireturn, 1) := by decide +kernel
set_option maxRecDepth 20000 in
theorem ggX0_isOpen_X0_fileOf : GoodIn wsX0_isOpen wsX0_fileOf := goodIn_r _ [11] (by decide +kernel) (by decide +kernel)
set_option maxRecDepth 20000 in
theorem gX0_isOpen_X0_fileOf : GoodIn wsX0_isOpen (va_wsS RX0 237 yX0_fileOf wsX0_fileOf) := goodIn_app (goodIn_of _ (by decide +kernel)) ggX0_isOpen_X0_fileOf
set_option maxRecDepth 20000 in
theorem ggX0_isOpen_X0_rankOf : GoodIn wsX0_isOpen wsX0_rankOf := goodIn_r _ [14] (by decide +kernel) (by decide +kernel)
set_option maxRecDepth 20000 in
theorem gX0_isOpen_X0_rankOf : GoodIn wsX0_isOpen (va_wsS RX0 189 yX0_rankOf wsX0_rankOf) := goodIn_app (goodIn_of _ (by decide +kernel)) ggX0_isOpen_X0_rankOf
set_option maxRecDepth 20000 in
theorem ggX0_isOpen_J6_compare_7cf53 : GoodIn wsX0_isOpen wsJ6_compare_7cf53 := goodIn_r _ [18] (by decide +kernel) (by decide +kernel)
set_option maxRecDepth 20000 in
theorem gX0_isOpen_J6_compare_7cf53 : GoodIn wsX0_isOpen (va_wsS RX0 245 yJ6_compare_7cf53 wsJ6_compare_7cf53) := goodIn_app (goodIn_of _ (by decide +kernel)) ggX0_isOpen_J6_compare_7cf53
set_option maxRecDepth 20000 in
theorem ggX0_isOpen_X0_isFree : GoodIn wsX0_isOpen wsX0_isFree := goodIn_r _ [22, 23, 24, 25, 10, 26, 27, 28, 29, 30, 31, 32, 33, 34, 35, 36, 37, 38, 39] (by decide +kernel) (by decide +kernel)
set_option maxRecDepth 20000 in
theorem gX0_isOpen_X0_isFree : GoodIn wsX0_isOpen (wsV RX0 207 RX0 yX0_isFree wsX0_isFree) := goodIn_app (goodIn_of _ (by decide +kernel)) ggX0_isOpen_X0_isFree
theorem dX0_isOpen_0 : decode cX0_isOpen 0 = .ok (.iload_n 2, 1) := by decide +kernel
theorem dX0_isOpen_1 : decode cX0_isOpen 1 = .ok (.invokestatic 237, 3) := by decide +kernel
theorem dX0_isOpen_4 : decode cX0_isOpen 4 = .ok (.iload_n 1, 1) := by decide +kernel
theorem dX0_isOpen_5 : decode cX0_isOpen 5 = .ok (.invokestatic 237, 3) := by decide +kernel
theorem dX0_isOpen_8 : decode cX0_isOpen 8 = .ok (.isub, 1) := by decide +kernel
theorem dX0_isOpen_9 : decode cX0_isOpen 9 = .ok (.istore_n 3, 1) := by decide +kernel
theorem dX0_isOpen_10 : decode cX0_isOpen 10 = .ok (.iload_n 2, 1) := by decide +kernel
theorem dX0_isOpen_11 : decode cX0_isOpen 11 = .ok (.invokestatic 189, 3) := by decide +kernel
theorem dX0_isOpen_14 : decode cX0_isOpen 14 = .ok (.iload_n 1, 1) := by decide +kernel
theorem dX0_isOpen_15 : decode cX0_isOpen 15 = .ok (.invokestatic 189, 3) := by decide +kernel
theorem dX0_isOpen_18 : decode cX0_isOpen 18 = .ok (.isub, 1) := by decide +kernel
theorem dX0_isOpen_19 : decode cX0_isOpen 19 = .ok (.istore 4, 2) := by decide +kernel
theorem dX0_isOpen_21 : decode cX0_isOpen 21 = .ok (.iload_n 3, 1) := by decide +kernel
theorem dX0_isOpen_22 : decode cX0_isOpen 22 = .ok (.iconst 0, 1) := by decide +kernel
theorem dX0_isOpen_23 : decode cX0_isOpen 23 = .ok (.invokestatic 245, 3) := by decide +kernel
theorem dX0_isOpen_26 : decode cX0_isOpen 26 = .ok (.bipush 8, 2) := by decide +kernel
theorem dX0_isOpen_28 : decode cX0_isOpen 28 = .ok (.iload 4, 2) := by decide +kernel
theorem dX0_isOpen_30 : decode cX0_isOpen 30 = .ok (.iconst 0, 1) := by decide +kernel
theorem dX0_isOpen_31 : decode cX0_isOpen 31 = .ok (.invokestatic 245, 3) := by decide +kernel
theorem dX0_isOpen_34 : decode cX0_isOpen 34 = .ok (.imul, 1) := by decide +kernel
theorem dX0_isOpen_35 : decode cX0_isOpen 35 = .ok (.iadd, 1) := by decide +kernel
theorem dX0_isOpen_36 : decode cX0_isOpen 36 = .ok (.istore 5, 2) := by decide +kernel
theorem dX0_isOpen_38 : decode cX0_isOpen 38 = .ok (.iload_n 3, 1) := by decide +kernel
theorem dX0_isOpen_39 : decode cX0_isOpen 39 = .ok (.invokestatic 240, 3) := by decide +kernel
theorem dX0_isOpen_42 : decode cX0_isOpen 42 = .ok (.iload 4, 2) := by decide +kernel
theorem dX0_isOpen_44 : decode cX0_isOpen 44 = .ok (.invokestatic 240, 3) := by decide +kernel
theorem dX0_isOpen_47 : decode cX0_isOpen 47 = .ok (.invokestatic 250, 3) := by decide +kernel
theorem dX0_isOpen_50 : decode cX0_isOpen 50 = .ok (.istore 6, 2) := by decide +kernel
theorem dX0_isOpen_52 : decode cX0_isOpen 52 = .ok (.iconst 1, 1) := by decide +kernel
theorem dX0_isOpen_53 : decode cX0_isOpen 53 = .ok (.istore 7, 2) := by decide +kernel
theorem dX0_isOpen_55 : decode cX0_isOpen 55 = .ok (.iload 7, 2) := by decide +kernel
theorem dX0_isOpen_57 : decode cX0_isOpen 57 = .ok (.iload 6, 2) := by decide +kernel
theorem dX0_isOpen_59 : decode cX0_isOpen 59 = .ok (.if_icmp .ge 25, 3) := by decide +kernel
theorem dX0_isOpen_62 : decode cX0_isOpen 62 = .ok (.aload_n 0, 1) := by decide +kernel
theorem dX0_isOpen_63 : decode cX0_isOpen 63 = .ok (.iload_n 1, 1) := by decide +kernel
theorem dX0_isOpen_64 : decode cX0_isOpen 64 = .ok (.iload 7, 2) := by decide +kernel
theorem dX0_isOpen_66 : decode cX0_isOpen 66 = .ok (.iload 5, 2) := by decide +kernel
theorem dX0_isOpen_68 : decode cX0_isOpen 68 = .ok (.imul, 1) := by decide +kernel
theorem dX0_isOpen_69 : decode cX0_isOpen 69 = .ok (.iadd, 1) := by decide +kernel
theorem dX0_isOpen_70 : decode cX0_isOpen 70 = .ok (.invokevirtual 207, 3) := by decide +kernel
theorem dX0_isOpen_73 : decode cX0_isOpen 73 = .ok (.ifCond .ne 5, 3) := by decide +kernel
theorem dX0_isOpen_76 : decode cX0_isOpen 76 = .ok (.iconst 0, 1) := by decide +kernel
theorem dX0_isOpen_77 : decode cX0_isOpen 77 = .ok (.ireturn, 1) := by decide +kernel
theorem dX0_isOpen_78 : decode cX0_isOpen 78 = .ok (.iinc 7 1, 3) := by decide +kernel
theorem dX0_isOpen_81 : decode cX0_isOpen 81 = .ok (.goto (-26), 3) := by decide +kernel
theorem dX0_isOpen_84 : decode cX0_isOpen 84 = .ok (.iconst 1, 1) := by decide +kernel
theorem dX0_isOpen_85 : decode cX0_isOpen 85 = .ok (.ireturn, 1) := by decide +kernel
set_option maxRecDepth 20000 in
theorem ggX0_squareTaken_X0_typeOf : GoodIn wsX0_squareTaken wsX0_typeOf := goodIn_r _ [6] (by decide +kernel) (by decide +kernel)
set_option maxRecDepth 20000 in
theorem gX0_squareTaken_X0_typeOf : GoodIn wsX0_squareTaken (va_wsS RX0 108 yX0_typeOf wsX0_typeOf) := goodIn_app (goodIn_of _ (by decide +kernel)) ggX0_squareTaken_X0_typeOf
set_option maxRecDepth 20000 in
theorem ggX0_squareTaken_X0_pawnAttacks : GoodIn wsX0_squareTaken wsX0_pawnAttacks := goodIn_r _ [9, 10, 11, 12, 13, 14, 15, 5, 16, 17, 18, 19, 20, 21, 22] (by decide +kernel) (by decide +kernel)
set_option maxRecDepth 20000 in
theorem gX0_squareTaken_X0_pawnAttacks : GoodIn wsX0_squareTaken (va_wsS RX0 213 yX0_pawnAttacks wsX0_pawnAttacks) := goodIn_app (goodIn_of _ (by decide +kernel)) ggX0_squareTaken_X0_pawnAttacks
set_option maxRecDepth 20000 in
theorem ggX0_squareTaken_X0_canBeTakenInPassing : GoodIn wsX0_squareTaken wsX0_canBeTakenInPassing := goodIn_r _ [26, 27, 2, 28, 29, 30, 5, 31, 1, 32, 33, 34, 35, 36, 37, 38, 17, 18, 19, 39, 40, 41, 42, 43, 44, 45, 46, 47, 48, 49, 50, 51, 52, 53, 54, 55, 56, 57, 58, 59, 60, 61] (by decide +kernel) (by decide +kernel)
set_option maxRecDepth 20000 in
theorem gX0_squareTaken_X0_canBeTakenInPassing : GoodIn wsX0_squareTaken (wsV RX0 216 RX0 yX0_canBeTakenInPassing wsX0_canBeTakenInPassing) := goodIn_app (goodIn_of _ (by decide +kernel)) ggX0_squareTaken_X0_canBeTakenInPassing
set_option maxRecDepth 20000 in
theorem ggX0_squareTaken_X0_squareBehind : GoodIn wsX0_squareTaken wsX0_squareBehind := goodIn_r _ [38, 2, 17, 18, 5, 19, 49, 50, 51, 52, 53, 54, 55, 56, 57, 58, 59, 60, 61] (by decide +kernel) (by decide +kernel)
set_option maxRecDepth 20000 in
theorem gX0_squareTaken_X0_squareBehind : GoodIn wsX0_squareTaken (wsV RX0 219 RX0 yX0_squareBehind wsX0_squareBehind) := goodIn_app (goodIn_of _ (by decide +kernel)) ggX0_squareTaken_X0_squareBehind
theorem dX0_squareTaken_0 : decode cX0_squareTaken 0 = .ok (.aload_n 0, 1) := by decide +kernel
theorem dX0_squareTaken_1 : decode cX0_squareTaken 1 = .ok (.getfield 9, 3) := by decide +kernel
theorem dX0_squareTaken_4 : decode cX0_squareTaken 4 = .ok (.iload_n 1, 1) := by decide +kernel
theorem dX0_squareTaken_5 : decode cX0_squareTaken 5 = .ok (.iaload, 1) := by decide +kernel
theorem dX0_squareTaken_6 : decode cX0_squareTaken 6 = .ok (.invokestatic 108, 3) := by decide +kernel
theorem dX0_squareTaken_9 : decode cX0_squareTaken 9 = .ok (.iconst 1, 1) := by decide +kernel
theorem dX0_squareTaken_10 : decode cX0_squareTaken 10 = .ok (.if_icmp .ne 19, 3) := by decide +kernel
theorem dX0_squareTaken_13 : decode cX0_squareTaken 13 = .ok (.aload_n 0, 1) := by decide +kernel
theorem dX0_squareTaken_14 : decode cX0_squareTaken 14 = .ok (.getfield 82, 3) := by decide +kernel
theorem dX0_squareTaken_17 : decode cX0_squareTaken 17 = .ok (.iload_n 1, 1) := by decide +kernel
theorem dX0_squareTaken_18 : decode cX0_squareTaken 18 = .ok (.iload_n 2, 1) := by decide +kernel
theorem dX0_squareTaken_19 : decode cX0_squareTaken 19 = .ok (.invokestatic 213, 3) := by decide +kernel
theorem dX0_squareTaken_22 : decode cX0_squareTaken 22 = .ok (.ifCond .eq 7, 3) := by decide +kernel
theorem dX0_squareTaken_25 : decode cX0_squareTaken 25 = .ok (.iconst 1, 1) := by decide +kernel
theorem dX0_squareTaken_26 : decode cX0_squareTaken 26 = .ok (.goto 4, 3) := by decide +kernel
theorem dX0_squareTaken_29 : decode cX0_squareTaken 29 = .ok (.iconst 0, 1) := by decide +kernel
theorem dX0_squareTaken_30 : decode cX0_squareTaken 30 = .ok (.istore_n 3, 1) := by decide +kernel
theorem dX0_squareTaken_31 : decode cX0_squareTaken 31 = .ok (.iload_n 3, 1) := by decide +kernel
theorem dX0_squareTaken_32 : decode cX0_squareTaken 32 = .ok (.ifCond .eq 19, 3) := by decide +kernel
theorem dX0_squareTaken_35 : decode cX0_squareTaken 35 = .ok (.aload_n 0, 1) := by decide +kernel
theorem dX0_squareTaken_36 : decode cX0_squareTaken 36 = .ok (.iload_n 2, 1) := by decide +kernel
theorem dX0_squareTaken_37 : decode cX0_squareTaken 37 = .ok (.invokevirtual 216, 3) := by decide +kernel
theorem dX0_squareTaken_40 : decode cX0_squareTaken 40 = .ok (.ifCond .eq 11, 3) := by decide +kernel
theorem dX0_squareTaken_43 : decode cX0_squareTaken 43 = .ok (.aload_n 0, 1) := by decide +kernel
theorem dX0_squareTaken_44 : decode cX0_squareTaken 44 = .ok (.iload_n 2, 1) := by decide +kernel
theorem dX0_squareTaken_45 : decode cX0_squareTaken 45 = .ok (.invokevirtual 219, 3) := by decide +kernel
theorem dX0_squareTaken_48 : decode cX0_squareTaken 48 = .ok (.goto 4, 3) := by decide +kernel
theorem dX0_squareTaken_51 : decode cX0_squareTaken 51 = .ok (.iload_n 2, 1) := by decide +kernel
theorem dX0_squareTaken_52 : decode cX0_squareTaken 52 = .ok (.ireturn, 1) := by decide +kernel
theorem dX0_remember_0 : decode cX0_remember 0 = .ok (.aload_n 0, 1) := by decide +kernel
theorem dX0_remember_1 : decode cX0_remember 1 = .ok (.getfield 13, 3) := by decide +kernel
theorem dX0_remember_4 : decode cX0_remember 4 = .ok (.aload_n 0, 1) := by decide +kernel
theorem dX0_remember_5 : decode cX0_remember 5 = .ok (.getfield 127, 3) := by decide +kernel
theorem dX0_remember_8 : decode cX0_remember 8 = .ok (.iload_n 1, 1) := by decide +kernel
theorem dX0_remember_9 : decode cX0_remember 9 = .ok (.iastore, 1) := by decide +kernel
theorem dX0_remember_10 : decode cX0_remember 10 = .ok (.aload_n 0, 1) := by decide +kernel
theorem dX0_remember_11 : decode cX0_remember 11 = .ok (.getfield 16, 3) := by decide +kernel
theorem dX0_remember_14 : decode cX0_remember 14 = .ok (.aload_n 0, 1) := by decide +kernel
theorem dX0_remember_15 : decode cX0_remember 15 = .ok (.getfield 127, 3) := by decide +kernel
theorem dX0_remember_18 : decode cX0_remember 18 = .ok (.iload_n 2, 1) := by decide +kernel
theorem dX0_remember_19 : decode cX0_remember 19 = .ok (.iastore, 1) := by decide +kernel
theorem dX0_remember_20 : decode cX0_remember 20 = .ok (.aload_n 0, 1) := by decide +kernel
theorem dX0_remember_21 : decode cX0_remember 21 = .ok (.getfield 19, 3) := by decide +kernel
theorem dX0_remember_24 : decode cX0_remember 24 = .ok (.aload_n 0, 1) := by decide +kernel
theorem dX0_remember_25 : decode cX0_remember 25 = .ok (.getfield 127, 3) := by decide +kernel
theorem dX0_remember_28 : decode cX0_remember 28 = .ok (.iload_n 3, 1) := by decide +kernel
theorem dX0_remember_29 : decode cX0_remember 29 = .ok (.iastore, 1) := by decide +kernel
theorem dX0_remember_30 : decode cX0_remember 30 = .ok (.aload_n 0, 1) := by decide +kernel
theorem dX0_remember_31 : decode cX0_remember 31 = .ok (.getfield 22, 3) := by decide +kernel
theorem dX0_remember_34 : decode cX0_remember 34 = .ok (.aload_n 0, 1) := by decide +kernel
theorem dX0_remember_35 : decode cX0_remember 35 = .ok (.getfield 127, 3) := by decide +kernel
theorem dX0_remember_38 : decode cX0_remember 38 = .ok (.aload_n 0, 1) := by decide +kernel
theorem dX0_remember_39 : decode cX0_remember 39 = .ok (.getfield 41, 3) := by decide +kernel
theorem dX0_remember_42 : decode cX0_remember 42 = .ok (.iastore, 1) := by decide +kernel
theorem dX0_remember_43 : decode cX0_remember 43 = .ok (.aload_n 0, 1) := by decide +kernel
theorem dX0_remember_44 : decode cX0_remember 44 = .ok (.getfield 25, 3) := by decide +kernel
theorem dX0_remember_47 : decode cX0_remember 47 = .ok (.aload_n 0, 1) := by decide +kernel
theorem dX0_remember_48 : decode cX0_remember 48 = .ok (.getfield 127, 3) := by decide +kernel
theorem dX0_remember_51 : decode cX0_remember 51 = .ok (.aload_n 0, 1) := by decide +kernel
theorem dX0_remember_52 : decode cX0_remember 52 = .ok (.getfield 85, 3) := by decide +kernel
theorem dX0_remember_55 : decode cX0_remember 55 = .ok (.iastore, 1) := by decide +kernel
theorem dX0_remember_56 : decode cX0_remember 56 = .ok (.aload_n 0, 1) := by decide +kernel
theorem dX0_remember_57 : decode cX0_remember 57 = .ok (.getfield 28, 3) := by decide +kernel
theorem dX0_remember_60 : decode cX0_remember 60 = .ok (.aload_n 0, 1) := by decide +kernel
theorem dX0_remember_61 : decode cX0_remember 61 = .ok (.getfield 127, 3) := by decide +kernel
theorem dX0_remember_64 : decode cX0_remember 64 = .ok (.aload_n 0, 1) := by decide +kernel
theorem dX0_remember_65 : decode cX0_remember 65 = .ok (.getfield 92, 3) := by decide +kernel
theorem dX0_remember_68 : decode cX0_remember 68 = .ok (.iastore, 1) := by decide +kernel
theorem dX0_remember_69 : decode cX0_remember 69 = .ok (.aload_n 0, 1) := by decide +kernel
theorem dX0_remember_70 : decode cX0_remember 70 = .ok (.dup, 1) := by decide +kernel
theorem dX0_remember_71 : decode cX0_remember 71 = .ok (.getfield 127, 3) := by decide +kernel
theorem dX0_remember_74 : decode cX0_remember 74 = .ok (.iconst 1, 1) := by decide +kernel
theorem dX0_remember_75 : decode cX0_remember 75 = .ok (.iadd, 1) := by decide +kernel
theorem dX0_remember_76 : decode cX0_remember 76 = .ok (.putfield 127, 3) := by decide +kernel
theorem dX0_remember_79 : decode cX0_remember 79 = .ok (.return_, 1) := by decide +kernel
set_option maxRecDepth 20000 in
theorem ggX0_carryOver_X0_fromOf : GoodIn wsX0_carryOver wsX0_fromOf := goodIn_r _ [6] (by decide +kernel) (by decide +kernel)
set_option maxRecDepth 20000 in
theorem gX0_carryOver_X0_fromOf : GoodIn wsX0_carryOver (va_wsS RX0 98 yX0_fromOf wsX0_fromOf) := goodIn_app (goodIn_of _ (by decide +kernel)) ggX0_carryOver_X0_fromOf
set_option maxRecDepth 20000 in
theorem ggX0_carryOver_X0_toOf : GoodIn wsX0_carryOver wsX0_toOf := goodIn_r _ [9] (by decide +kernel) (by decide +kernel)
set_option maxRecDepth 20000 in
theorem gX0_carryOver_X0_toOf : GoodIn wsX0_carryOver (va_wsS RX0 102 yX0_toOf wsX0_toOf) := goodIn_app (goodIn_of _ (by decide +kernel)) ggX0_carryOver_X0_toOf
set_option maxRecDepth 20000 in
theorem ggX0_carryOver_X0_kindOf : GoodIn wsX0_carryOver wsX0_kindOf := goodIn_r _ [12] (by decide +kernel) (by decide +kernel)
set_option maxRecDepth 20000 in
theorem gX0_carryOver_X0_kindOf : GoodIn wsX0_carryOver (va_wsS RX0 111 yX0_kindOf wsX0_kindOf) := goodIn_app (goodIn_of _ (by decide +kernel)) ggX0_carryOver_X0_kindOf
set_option maxRecDepth 20000 in
theorem ggX0_carryOver_X0_isCastling : GoodIn wsX0_carryOver wsX0_isCastling := goodIn_r _ [15, 16, 17, 5, 18, 19, 20, 21, 22, 23, 24, 25, 26, 27, 28] (by decide +kernel) (by decide +kernel)
set_option maxRecDepth 20000 in
theorem gX0_carryOver_X0_isCastling : GoodIn wsX0_carryOver (va_wsS RX0 253 yX0_isCastling wsX0_isCastling) := goodIn_app (goodIn_of _ (by decide +kernel)) ggX0_carryOver_X0_isCastling
set_option maxRecDepth 20000 in
theorem ggX0_carryOver_X0_cornerBeyond : GoodIn wsX0_carryOver wsX0_cornerBeyond := goodIn_r _ [31] (by decide +kernel) (by decide +kernel)
set_option maxRecDepth 20000 in
theorem gX0_carryOver_X0_cornerBeyond : GoodIn wsX0_carryOver (va_wsS RX0 231 yX0_cornerBeyond wsX0_cornerBeyond) := goodIn_app (goodIn_of _ (by decide +kernel)) ggX0_carryOver_X0_cornerBeyond
set_option maxRecDepth 20000 in
theorem ggX0_carryOver_X0_shift : GoodIn wsX0_carryOver wsX0_shift := goodIn_r _ [35, 1, 36, 37, 5, 38, 42, 43, 44, 45, 46, 47, 48, 49, 50, 51, 52, 53, 54] (by decide +kernel) (by decide +kernel)
set_option maxRecDepth 20000 in
theorem gX0_carryOver_X0_shift : GoodIn wsX0_carryOver (wsV RX0 256 RX0 yX0_shift wsX0_shift) := goodIn_app (goodIn_of _ (by decide +kernel)) ggX0_carryOver_X0_shift
set_option maxRecDepth 20000 in
theorem ggX0_carryOver_X0_pieceOf : GoodIn wsX0_carryOver wsX0_pieceOf := goodIn_r _ [41] (by decide +kernel) (by decide +kernel)
set_option maxRecDepth 20000 in
theorem gX0_carryOver_X0_pieceOf : GoodIn wsX0_carryOver (va_wsS RX0 37 yX0_pieceOf wsX0_pieceOf) := goodIn_app (goodIn_of _ (by decide +kernel)) ggX0_carryOver_X0_pieceOf
theorem dX0_carryOver_0 : decode cX0_carryOver 0 = .ok (.iload_n 1, 1) := by decide +kernel
theorem dX0_carryOver_1 : decode cX0_carryOver 1 = .ok (.invokestatic 98, 3) := by decide +kernel
theorem dX0_carryOver_4 : decode cX0_carryOver 4 = .ok (.istore_n 3, 1) := by decide +kernel
theorem dX0_carryOver_5 : decode cX0_carryOver 5 = .ok (.iload_n 1, 1) := by decide +kernel
theorem dX0_carryOver_6 : decode cX0_carryOver 6 = .ok (.invokestatic 102, 3) := by decide +kernel
theorem dX0_carryOver_9 : decode cX0_carryOver 9 = .ok (.istore 4, 2) := by decide +kernel
theorem dX0_carryOver_11 : decode cX0_carryOver 11 = .ok (.iload_n 1, 1) := by decide +kernel
theorem dX0_carryOver_12 : decode cX0_carryOver 12 = .ok (.invokestatic 111, 3) := by decide +kernel
theorem dX0_carryOver_15 : decode cX0_carryOver 15 = .ok (.istore 5, 2) := by decide +kernel
theorem dX0_carryOver_17 : decode cX0_carryOver 17 = .ok (.aload_n 0, 1) := by decide +kernel
theorem dX0_carryOver_18 : decode cX0_carryOver 18 = .ok (.getfield 9, 3) := by decide +kernel
theorem dX0_carryOver_21 : decode cX0_carryOver 21 = .ok (.iload_n 3, 1) := by decide +kernel
theorem dX0_carryOver_22 : decode cX0_carryOver 22 = .ok (.iaload, 1) := by decide +kernel
theorem dX0_carryOver_23 : decode cX0_carryOver 23 = .ok (.istore 6, 2) := by decide +kernel
theorem dX0_carryOver_25 : decode cX0_carryOver 25 = .ok (.iload 6, 2) := by decide +kernel
theorem dX0_carryOver_27 : decode cX0_carryOver 27 = .ok (.iload_n 3, 1) := by decide +kernel
theorem dX0_carryOver_28 : decode cX0_carryOver 28 = .ok (.iload 4, 2) := by decide +kernel
theorem dX0_carryOver_30 : decode cX0_carryOver 30 = .ok (.invokestatic 253, 3) := by decide +kernel
theorem dX0_carryOver_33 : decode cX0_carryOver 33 = .ok (.ifCond .eq 19, 3) := by decide +kernel
theorem dX0_carryOver_36 : decode cX0_carryOver 36 = .ok (.aload_n 0, 1) := by decide +kernel
theorem dX0_carryOver_37 : decode cX0_carryOver 37 = .ok (.iload_n 3, 1) := by decide +kernel
theorem dX0_carryOver_38 : decode cX0_carryOver 38 = .ok (.iload 4, 2) := by decide +kernel
theorem dX0_carryOver_40 : decode cX0_carryOver 40 = .ok (.invokestatic 231, 3) := by decide +kernel
theorem dX0_carryOver_43 : decode cX0_carryOver 43 = .ok (.iload_n 3, 1) := by decide +kernel
theorem dX0_carryOver_44 : decode cX0_carryOver 44 = .ok (.iload 4, 2) := by decide +kernel
theorem dX0_carryOver_46 : decode cX0_carryOver 46 = .ok (.iadd, 1) := by decide +kernel
theorem dX0_carryOver_47 : decode cX0_carryOver 47 = .ok (.iconst 2, 1) := by decide +kernel
theorem dX0_carryOver_48 : decode cX0_carryOver 48 = .ok (.idiv, 1) := by decide +kernel
theorem dX0_carryOver_49 : decode cX0_carryOver 49 = .ok (.invokevirtual 256, 3) := by decide +kernel
theorem dX0_carryOver_52 : decode cX0_carryOver 52 = .ok (.aload_n 0, 1) := by decide +kernel
theorem dX0_carryOver_53 : decode cX0_carryOver 53 = .ok (.getfield 9, 3) := by decide +kernel
theorem dX0_carryOver_56 : decode cX0_carryOver 56 = .ok (.iload_n 2, 1) := by decide +kernel
theorem dX0_carryOver_57 : decode cX0_carryOver 57 = .ok (.iconst 0, 1) := by decide +kernel
theorem dX0_carryOver_58 : decode cX0_carryOver 58 = .ok (.iastore, 1) := by decide +kernel
theorem dX0_carryOver_59 : decode cX0_carryOver 59 = .ok (.aload_n 0, 1) := by decide +kernel
theorem dX0_carryOver_60 : decode cX0_carryOver 60 = .ok (.getfield 9, 3) := by decide +kernel
theorem dX0_carryOver_63 : decode cX0_carryOver 63 = .ok (.iload_n 3, 1) := by decide +kernel
theorem dX0_carryOver_64 : decode cX0_carryOver 64 = .ok (.iconst 0, 1) := by decide +kernel
theorem dX0_carryOver_65 : decode cX0_carryOver 65 = .ok (.iastore, 1) := by decide +kernel
theorem dX0_carryOver_66 : decode cX0_carryOver 66 = .ok (.aload_n 0, 1) := by decide +kernel
theorem dX0_carryOver_67 : decode cX0_carryOver 67 = .ok (.getfield 9, 3) := by decide +kernel
theorem dX0_carryOver_70 : decode cX0_carryOver 70 = .ok (.iload 4, 2) := by decide +kernel
theorem dX0_carryOver_72 : decode cX0_carryOver 72 = .ok (.iload 5, 2) := by decide +kernel
theorem dX0_carryOver_74 : decode cX0_carryOver 74 = .ok (.ifCond .ne 8, 3) := by decide +kernel
theorem dX0_carryOver_77 : decode cX0_carryOver 77 = .ok (.iload 6, 2) := by decide +kernel
theorem dX0_carryOver_79 : decode cX0_carryOver 79 = .ok (.goto 12, 3) := by decide +kernel
theorem dX0_carryOver_82 : decode cX0_carryOver 82 = .ok (.iload 5, 2) := by decide +kernel
theorem dX0_carryOver_84 : decode cX0_carryOver 84 = .ok (.aload_n 0, 1) := by decide +kernel
theorem dX0_carryOver_85 : decode cX0_carryOver 85 = .ok (.getfield 82, 3) := by decide +kernel
theorem dX0_carryOver_88 : decode cX0_carryOver 88 = .ok (.invokestatic 37, 3) := by decide +kernel
theorem dX0_carryOver_91 : decode cX0_carryOver 91 = .ok (.iastore, 1) := by decide +kernel
theorem dX0_carryOver_92 : decode cX0_carryOver 92 = .ok (.return_, 1) := by decide +kernel
set_option maxRecDepth 20000 in
theorem ggX0_carryBack_X0_fromOf : GoodIn wsX0_carryBack wsX0_fromOf := goodIn_r _ [6] (by decide +kernel) (by decide +kernel)
set_option maxRecDepth 20000 in
theorem gX0_carryBack_X0_fromOf : GoodIn wsX0_carryBack (va_wsS RX0 98 yX0_fromOf wsX0_fromOf) := goodIn_app (goodIn_of _ (by decide +kernel)) ggX0_carryBack_X0_fromOf
set_option maxRecDepth 20000 in
theorem ggX0_carryBack_X0_toOf : GoodIn wsX0_carryBack wsX0_toOf := goodIn_r _ [9] (by decide +kernel) (by decide +kernel)
set_option maxRecDepth 20000 in
theorem gX0_carryBack_X0_toOf : GoodIn wsX0_carryBack (va_wsS RX0 102 yX0_toOf wsX0_toOf) := goodIn_app (goodIn_of _ (by decide +kernel)) ggX0_carryBack_X0_toOf
set_option maxRecDepth 20000 in
theorem ggX0_carryBack_X0_kindOf : GoodIn wsX0_carryBack wsX0_kindOf := goodIn_r _ [12] (by decide +kernel) (by decide +kernel)
set_option maxRecDepth 20000 in
theorem gX0_carryBack_X0_kindOf : GoodIn wsX0_carryBack (va_wsS RX0 111 yX0_kindOf wsX0_kindOf) := goodIn_app (goodIn_of _ (by decide +kernel)) ggX0_carryBack_X0_kindOf
set_option maxRecDepth 20000 in
theorem ggX0_carryBack_X0_pieceOf : GoodIn wsX0_carryBack wsX0_pieceOf := goodIn_r _ [15] (by decide +kernel) (by decide +kernel)
set_option maxRecDepth 20000 in
theorem gX0_carryBack_X0_pieceOf : GoodIn wsX0_carryBack (va_wsS RX0 37 yX0_pieceOf wsX0_pieceOf) := goodIn_app (goodIn_of _ (by decide +kernel)) ggX0_carryBack_X0_pieceOf
set_option maxRecDepth 20000 in
theorem ggX0_carryBack_X0_isCastling : GoodIn wsX0_carryBack wsX0_isCastling := goodIn_r _ [18, 19, 20, 5, 21, 22, 23, 24, 25, 26, 27, 28, 29, 30, 31] (by decide +kernel) (by decide +kernel)
set_option maxRecDepth 20000 in
theorem gX0_carryBack_X0_isCastling : GoodIn wsX0_carryBack (va_wsS RX0 253 yX0_isCastling wsX0_isCastling) := goodIn_app (goodIn_of _ (by decide +kernel)) ggX0_carryBack_X0_isCastling
set_option maxRecDepth 20000 in
theorem ggX0_carryBack_X0_cornerBeyond : GoodIn wsX0_carryBack wsX0_cornerBeyond := goodIn_r _ [34] (by decide +kernel) (by decide +kernel)
set_option maxRecDepth 20000 in
theorem gX0_carryBack_X0_cornerBeyond : GoodIn wsX0_carryBack (va_wsS RX0 231 yX0_cornerBeyond wsX0_cornerBeyond) := goodIn_app (goodIn_of _ (by decide +kernel)) ggX0_carryBack_X0_cornerBeyond
set_option maxRecDepth 20000 in
theorem ggX0_carryBack_X0_shift : GoodIn wsX0_carryBack wsX0_shift := goodIn_r _ [38, 1, 39, 40, 5, 41, 42, 43, 44, 45, 46, 47, 48, 49, 50, 51, 52, 53, 54] (by decide +kernel) (by decide +kernel)
set_option maxRecDepth 20000 in
theorem gX0_carryBack_X0_shift : GoodIn wsX0_carryBack (wsV RX0 256 RX0 yX0_shift wsX0_shift) := goodIn_app (goodIn_of _ (by decide +kernel)) ggX0_carryBack_X0_shift
theorem dX0_carryBack_0 : decode cX0_carryBack 0 = .ok (.iload_n 1, 1) := by decide +kernel
theorem dX0_carryBack_1 : decode cX0_carryBack 1 = .ok (.invokestatic 98, 3) := by decide +kernel
theorem dX0_carryBack_4 : decode cX0_carryBack 4 = .ok (.istore 4, 2) := by decide +kernel
theorem dX0_carryBack_6 : decode cX0_carryBack 6 = .ok (.iload_n 1, 1) := by decide +kernel
theorem dX0_carryBack_7 : decode cX0_carryBack 7 = .ok (.invokestatic 102, 3) := by decide +kernel
theorem dX0_carryBack_10 : decode cX0_carryBack 10 = .ok (.istore 5, 2) := by decide +kernel
theorem dX0_carryBack_12 : decode cX0_carryBack 12 = .ok (.iload_n 1, 1) := by decide +kernel
theorem dX0_carryBack_13 : decode cX0_carryBack 13 = .ok (.invokestatic 111, 3) := by decide +kernel
theorem dX0_carryBack_16 : decode cX0_carryBack 16 = .ok (.ifCond .ne 13, 3) := by decide +kernel
theorem dX0_carryBack_19 : decode cX0_carryBack 19 = .ok (.aload_n 0, 1) := by decide +kernel
theorem dX0_carryBack_20 : decode cX0_carryBack 20 = .ok (.getfield 9, 3) := by decide +kernel
theorem dX0_carryBack_23 : decode cX0_carryBack 23 = .ok (.iload 5, 2) := by decide +kernel
theorem dX0_carryBack_25 : decode cX0_carryBack 25 = .ok (.iaload, 1) := by decide +kernel
theorem dX0_carryBack_26 : decode cX0_carryBack 26 = .ok (.goto 11, 3) := by decide +kernel
theorem dX0_carryBack_29 : decode cX0_carryBack 29 = .ok (.iconst 1, 1) := by decide +kernel
theorem dX0_carryBack_30 : decode cX0_carryBack 30 = .ok (.aload_n 0, 1) := by decide +kernel
theorem dX0_carryBack_31 : decode cX0_carryBack 31 = .ok (.getfield 82, 3) := by decide +kernel
theorem dX0_carryBack_34 : decode cX0_carryBack 34 = .ok (.invokestatic 37, 3) := by decide +kernel
theorem dX0_carryBack_37 : decode cX0_carryBack 37 = .ok (.istore 6, 2) := by decide +kernel
theorem dX0_carryBack_39 : decode cX0_carryBack 39 = .ok (.aload_n 0, 1) := by decide +kernel
theorem dX0_carryBack_40 : decode cX0_carryBack 40 = .ok (.getfield 9, 3) := by decide +kernel
theorem dX0_carryBack_43 : decode cX0_carryBack 43 = .ok (.iload 5, 2) := by decide +kernel
theorem dX0_carryBack_45 : decode cX0_carryBack 45 = .ok (.iconst 0, 1) := by decide +kernel
theorem dX0_carryBack_46 : decode cX0_carryBack 46 = .ok (.iastore, 1) := by decide +kernel
theorem dX0_carryBack_47 : decode cX0_carryBack 47 = .ok (.aload_n 0, 1) := by decide +kernel
theorem dX0_carryBack_48 : decode cX0_carryBack 48 = .ok (.getfield 9, 3) := by decide +kernel
theorem dX0_carryBack_51 : decode cX0_carryBack 51 = .ok (.iload_n 3, 1) := by decide +kernel
theorem dX0_carryBack_52 : decode cX0_carryBack 52 = .ok (.iload_n 2, 1) := by decide +kernel
theorem dX0_carryBack_53 : decode cX0_carryBack 53 = .ok (.iastore, 1) := by decide +kernel
theorem dX0_carryBack_54 : decode cX0_carryBack 54 = .ok (.aload_n 0, 1) := by decide +kernel
theorem dX0_carryBack_55 : decode cX0_carryBack 55 = .ok (.getfield 9, 3) := by decide +kernel
theorem dX0_carryBack_58 : decode cX0_carryBack 58 = .ok (.iload 4, 2) := by decide +kernel
theorem dX0_carryBack_60 : decode cX0_carryBack 60 = .ok (.iload 6, 2) := by decide +kernel
theorem dX0_carryBack_62 : decode cX0_carryBack 62 = .ok (.iastore, 1) := by decide +kernel
theorem dX0_carryBack_63 : decode cX0_carryBack 63 = .ok (.iload 6, 2) := by decide +kernel
theorem dX0_carryBack_65 : decode cX0_carryBack 65 = .ok (.iload 4, 2) := by decide +kernel
theorem dX0_carryBack_67 : decode cX0_carryBack 67 = .ok (.iload 5, 2) := by decide +kernel
theorem dX0_carryBack_69 : decode cX0_carryBack 69 = .ok (.invokestatic 253, 3) := by decide +kernel
theorem dX0_carryBack_72 : decode cX0_carryBack 72 = .ok (.ifCond .eq 21, 3) := by decide +kernel
theorem dX0_carryBack_75 : decode cX0_carryBack 75 = .ok (.aload_n 0, 1) := by decide +kernel
theorem dX0_carryBack_76 : decode cX0_carryBack 76 = .ok (.iload 4, 2) := by decide +kernel
theorem dX0_carryBack_78 : decode cX0_carryBack 78 = .ok (.iload 5, 2) := by decide +kernel
theorem dX0_carryBack_80 : decode cX0_carryBack 80 = .ok (.iadd, 1) := by decide +kernel
theorem dX0_carryBack_81 : decode cX0_carryBack 81 = .ok (.iconst 2, 1) := by decide +kernel
theorem dX0_carryBack_82 : decode cX0_carryBack 82 = .ok (.idiv, 1) := by decide +kernel
theorem dX0_carryBack_83 : decode cX0_carryBack 83 = .ok (.iload 4, 2) := by decide +kernel
theorem dX0_carryBack_85 : decode cX0_carryBack 85 = .ok (.iload 5, 2) := by decide +kernel
theorem dX0_carryBack_87 : decode cX0_carryBack 87 = .ok (.invokestatic 231, 3) := by decide +kernel
theorem dX0_carryBack_90 : decode cX0_carryBack 90 = .ok (.invokevirtual 256, 3) := by decide +kernel
theorem dX0_carryBack_93 : decode cX0_carryBack 93 = .ok (.return_, 1) := by decide +kernel
set_option maxRecDepth 20000 in
theorem ggX0_shift_X0_isSquare : GoodIn wsX0_shift wsX0_isSquare := goodIn_r _ [5] (by decide +kernel) (by decide +kernel)
set_option maxRecDepth 20000 in
theorem gX0_shift_X0_isSquare : GoodIn wsX0_shift (va_wsS RX0 45 yX0_isSquare wsX0_isSquare) := goodIn_app (goodIn_of _ (by decide +kernel)) ggX0_shift_X0_isSquare
theorem dX0_shift_0 : decode cX0_shift 0 = .ok (.iload_n 1, 1) := by decide +kernel
theorem dX0_shift_1 : decode cX0_shift 1 = .ok (.invokestatic 45, 3) := by decide +kernel
theorem dX0_shift_4 : decode cX0_shift 4 = .ok (.ifCond .eq 29, 3) := by decide +kernel
theorem dX0_shift_7 : decode cX0_shift 7 = .ok (.iload_n 2, 1) := by decide +kernel
theorem dX0_shift_8 : decode cX0_shift 8 = .ok (.invokestatic 45, 3) := by decide +kernel
theorem dX0_shift_11 : decode cX0_shift 11 = .ok (.ifCond .eq 22, 3) := by decide +kernel
theorem dX0_shift_14 : decode cX0_shift 14 = .ok (.aload_n 0, 1) := by decide +kernel
theorem dX0_shift_15 : decode cX0_shift 15 = .ok (.getfield 9, 3) := by decide +kernel
theorem dX0_shift_18 : decode cX0_shift 18 = .ok (.iload_n 2, 1) := by decide +kernel
theorem dX0_shift_19 : decode cX0_shift 19 = .ok (.aload_n 0, 1) := by decide +kernel
theorem dX0_shift_20 : decode cX0_shift 20 = .ok (.getfield 9, 3) := by decide +kernel
theorem dX0_shift_23 : decode cX0_shift 23 = .ok (.iload_n 1, 1) := by decide +kernel
theorem dX0_shift_24 : decode cX0_shift 24 = .ok (.iaload, 1) := by decide +kernel
theorem dX0_shift_25 : decode cX0_shift 25 = .ok (.iastore, 1) := by decide +kernel
theorem dX0_shift_26 : decode cX0_shift 26 = .ok (.aload_n 0, 1) := by decide +kernel
theorem dX0_shift_27 : decode cX0_shift 27 = .ok (.getfield 9, 3) := by decide +kernel
theorem dX0_shift_30 : decode cX0_shift 30 = .ok (.iload_n 1, 1) := by decide +kernel
theorem dX0_shift_31 : decode cX0_shift 31 = .ok (.iconst 0, 1) := by decide +kernel
theorem dX0_shift_32 : decode cX0_shift 32 = .ok (.iastore, 1) := by decide +kernel
theorem dX0_shift_33 : decode cX0_shift 33 = .ok (.return_, 1) := by decide +kernel
set_option maxRecDepth 20000 in
theorem ggX0_isCastling_X0_typeOf : GoodIn wsX0_isCastling wsX0_typeOf := goodIn_r _ [4] (by decide +kernel) (by decide +kernel)
set_option maxRecDepth 20000 in
theorem gX0_isCastling_X0_typeOf : GoodIn wsX0_isCastling (va_wsS RX0 108 yX0_typeOf wsX0_typeOf) := goodIn_app (goodIn_of _ (by decide +kernel)) ggX0_isCastling_X0_typeOf
set_option maxRecDepth 20000 in
theorem ggX0_isCastling_X0_isTwoFilesAway : GoodIn wsX0_isCastling wsX0_isTwoFilesAway := goodIn_r _ [7, 8, 9, 10, 11, 12, 13, 3, 14] (by decide +kernel) (by decide +kernel)
set_option maxRecDepth 20000 in
theorem gX0_isCastling_X0_isTwoFilesAway : GoodIn wsX0_isCastling (va_wsS RX0 228 yX0_isTwoFilesAway wsX0_isTwoFilesAway) := goodIn_app (goodIn_of _ (by decide +kernel)) ggX0_isCastling_X0_isTwoFilesAway
theorem dX0_isCastling_0 : decode cX0_isCastling 0 = .ok (.iload_n 0, 1) := by decide +kernel
theorem dX0_isCastling_1 : decode cX0_isCastling 1 = .ok (.invokestatic 108, 3) := by decide +kernel
theorem dX0_isCastling_4 : decode cX0_isCastling 4 = .ok (.bipush 6, 2) := by decide +kernel
theorem dX0_isCastling_6 : decode cX0_isCastling 6 = .ok (.if_icmp .ne 15, 3) := by decide +kernel
theorem dX0_isCastling_9 : decode cX0_isCastling 9 = .ok (.iload_n 1, 1) := by decide +kernel
theorem dX0_isCastling_10 : decode cX0_isCastling 10 = .ok (.iload_n 2, 1) := by decide +kernel
theorem dX0_isCastling_11 : decode cX0_isCastling 11 = .ok (.invokestatic 228, 3) := by decide +kernel
theorem dX0_isCastling_14 : decode cX0_isCastling 14 = .ok (.ifCond .eq 7, 3) := by decide +kernel
theorem dX0_isCastling_17 : decode cX0_isCastling 17 = .ok (.iconst 1, 1) := by decide +kernel
theorem dX0_isCastling_18 : decode cX0_isCastling 18 = .ok (.goto 4, 3) := by decide +kernel
theorem dX0_isCastling_21 : decode cX0_isCastling 21 = .ok (.iconst 0, 1) := by decide +kernel
theorem dX0_isCastling_22 : decode cX0_isCastling 22 = .ok (.ireturn, 1) := by decide +kernel
set_option maxRecDepth 20000 in
theorem ggX0_passingBehind_X0_typeOf : GoodIn wsX0_passingBehind wsX0_typeOf := goodIn_r _ [10] (by decide +kernel) (by decide +kernel)
set_option maxRecDepth 20000 in
theorem gX0_passingBehind_X0_typeOf : GoodIn wsX0_passingBehind (va_wsS RX0 108 yX0_typeOf wsX0_typeOf) := goodIn_app (goodIn_of _ (by decide +kernel)) ggX0_passingBehind_X0_typeOf
set_option maxRecDepth 20000 in
theorem ggX0_passingBehind_X0_otherThan : GoodIn wsX0_passingBehind wsX0_otherThan := goodIn_r _ [13] (by decide +kernel) (by decide +kernel)
set_option maxRecDepth 20000 in
theorem gX0_passingBehind_X0_otherThan : GoodIn wsX0_passingBehind (va_wsS RX0 152 yX0_otherThan wsX0_otherThan) := goodIn_app (goodIn_of _ (by decide +kernel)) ggX0_passingBehind_X0_otherThan
set_option maxRecDepth 20000 in
theorem ggX0_passingBehind_X0_pieceOf : GoodIn wsX0_passingBehind wsX0_pieceOf := goodIn_r _ [16] (by decide +kernel) (by decide +kernel)
set_option maxRecDepth 20000 in
theorem gX0_passingBehind_X0_pieceOf : GoodIn wsX0_passingBehind (va_wsS RX0 37 yX0_pieceOf wsX0_pieceOf) := goodIn_app (goodIn_of _ (by decide +kernel)) ggX0_passingBehind_X0_pieceOf
set_option maxRecDepth 20000 in
theorem ggX0_passingBehind_X0_pawnAttacks : GoodIn wsX0_passingBehind wsX0_pawnAttacks := goodIn_r _ [19, 2, 3, 4, 5, 20, 21, 9, 22, 23, 24, 25, 26, 27, 28] (by decide +kernel) (by decide +kernel)
set_option maxRecDepth 20000 in
theorem gX0_passingBehind_X0_pawnAttacks : GoodIn wsX0_passingBehind (va_wsS RX0 213 yX0_pawnAttacks wsX0_pawnAttacks) := goodIn_app (goodIn_of _ (by decide +kernel)) ggX0_passingBehind_X0_pawnAttacks
theorem dX0_passingBehind_0 : decode cX0_passingBehind 0 = .ok (.aload_n 0, 1) := by decide +kernel
theorem dX0_passingBehind_1 : decode cX0_passingBehind 1 = .ok (.getfield 9, 3) := by decide +kernel
theorem dX0_passingBehind_4 : decode cX0_passingBehind 4 = .ok (.iload_n 2, 1) := by decide +kernel
theorem dX0_passingBehind_5 : decode cX0_passingBehind 5 = .ok (.iaload, 1) := by decide +kernel
theorem dX0_passingBehind_6 : decode cX0_passingBehind 6 = .ok (.invokestatic 108, 3) := by decide +kernel
theorem dX0_passingBehind_9 : decode cX0_passingBehind 9 = .ok (.iconst 1, 1) := by decide +kernel
theorem dX0_passingBehind_10 : decode cX0_passingBehind 10 = .ok (.if_icmp .ne 14, 3) := by decide +kernel
theorem dX0_passingBehind_13 : decode cX0_passingBehind 13 = .ok (.iload_n 2, 1) := by decide +kernel
theorem dX0_passingBehind_14 : decode cX0_passingBehind 14 = .ok (.iload_n 1, 1) := by decide +kernel
theorem dX0_passingBehind_15 : decode cX0_passingBehind 15 = .ok (.isub, 1) := by decide +kernel
theorem dX0_passingBehind_16 : decode cX0_passingBehind 16 = .ok (.invokestatic 240, 3) := by decide +kernel
theorem dX0_passingBehind_19 : decode cX0_passingBehind 19 = .ok (.bipush 16, 2) := by decide +kernel
theorem dX0_passingBehind_21 : decode cX0_passingBehind 21 = .ok (.if_icmp .eq 5, 3) := by decide +kernel
theorem dX0_passingBehind_24 : decode cX0_passingBehind 24 = .ok (.iconst (-1), 1) := by decide +kernel
theorem dX0_passingBehind_25 : decode cX0_passingBehind 25 = .ok (.ireturn, 1) := by decide +kernel
theorem dX0_passingBehind_26 : decode cX0_passingBehind 26 = .ok (.iload_n 1, 1) := by decide +kernel
theorem dX0_passingBehind_27 : decode cX0_passingBehind 27 = .ok (.iload_n 2, 1) := by decide +kernel
theorem dX0_passingBehind_28 : decode cX0_passingBehind 28 = .ok (.iadd, 1) := by decide +kernel
theorem dX0_passingBehind_29 : decode cX0_passingBehind 29 = .ok (.iconst 2, 1) := by decide +kernel
theorem dX0_passingBehind_30 : decode cX0_passingBehind 30 = .ok (.idiv, 1) := by decide +kernel
theorem dX0_passingBehind_31 : decode cX0_passingBehind 31 = .ok (.istore_n 3, 1) := by decide +kernel
theorem dX0_passingBehind_32 : decode cX0_passingBehind 32 = .ok (.aload_n 0, 1) := by decide +kernel
theorem dX0_passingBehind_33 : decode cX0_passingBehind 33 = .ok (.getfield 82, 3) := by decide +kernel
theorem dX0_passingBehind_36 : decode cX0_passingBehind 36 = .ok (.invokestatic 152, 3) := by decide +kernel
theorem dX0_passingBehind_39 : decode cX0_passingBehind 39 = .ok (.istore 4, 2) := by decide +kernel
theorem dX0_passingBehind_41 : decode cX0_passingBehind 41 = .ok (.iconst 0, 1) := by decide +kernel
theorem dX0_passingBehind_42 : decode cX0_passingBehind 42 = .ok (.istore 5, 2) := by decide +kernel
theorem dX0_passingBehind_44 : decode cX0_passingBehind 44 = .ok (.iload 5, 2) := by decide +kernel
theorem dX0_passingBehind_46 : decode cX0_passingBehind 46 = .ok (.bipush 64, 2) := by decide +kernel
theorem dX0_passingBehind_48 : decode cX0_passingBehind 48 = .ok (.if_icmp .ge 38, 3) := by decide +kernel
theorem dX0_passingBehind_51 : decode cX0_passingBehind 51 = .ok (.aload_n 0, 1) := by decide +kernel
theorem dX0_passingBehind_52 : decode cX0_passingBehind 52 = .ok (.getfield 9, 3) := by decide +kernel
theorem dX0_passingBehind_55 : decode cX0_passingBehind 55 = .ok (.iload 5, 2) := by decide +kernel
theorem dX0_passingBehind_57 : decode cX0_passingBehind 57 = .ok (.iaload, 1) := by decide +kernel
theorem dX0_passingBehind_58 : decode cX0_passingBehind 58 = .ok (.iconst 1, 1) := by decide +kernel
theorem dX0_passingBehind_59 : decode cX0_passingBehind 59 = .ok (.iload 4, 2) := by decide +kernel
theorem dX0_passingBehind_61 : decode cX0_passingBehind 61 = .ok (.invokestatic 37, 3) := by decide +kernel
theorem dX0_passingBehind_64 : decode cX0_passingBehind 64 = .ok (.if_icmp .ne 16, 3) := by decide +kernel
theorem dX0_passingBehind_67 : decode cX0_passingBehind 67 = .ok (.iload 4, 2) := by decide +kernel
theorem dX0_passingBehind_69 : decode cX0_passingBehind 69 = .ok (.iload 5, 2) := by decide +kernel
theorem dX0_passingBehind_71 : decode cX0_passingBehind 71 = .ok (.iload_n 3, 1) := by decide +kernel
theorem dX0_passingBehind_72 : decode cX0_passingBehind 72 = .ok (.invokestatic 213, 3) := by decide +kernel
theorem dX0_passingBehind_75 : decode cX0_passingBehind 75 = .ok (.ifCond .eq 5, 3) := by decide +kernel
theorem dX0_passingBehind_78 : decode cX0_passingBehind 78 = .ok (.iload_n 3, 1) := by decide +kernel
theorem dX0_passingBehind_79 : decode cX0_passingBehind 79 = .ok (.ireturn, 1) := by decide +kernel
theorem dX0_passingBehind_80 : decode cX0_passingBehind 80 = .ok (.iinc 5 1, 3) := by decide +kernel
theorem dX0_passingBehind_83 : decode cX0_passingBehind 83 = .ok (.goto (-39), 3) := by decide +kernel
theorem dX0_passingBehind_86 : decode cX0_passingBehind 86 = .ok (.iconst (-1), 1) := by decide +kernel
theorem dX0_passingBehind_87 : decode cX0_passingBehind 87 = .ok (.ireturn, 1) := by decide +kernel
set_option maxRecDepth 20000 in
theorem ggX0_isFree_X0_isSquare : GoodIn wsX0_isFree wsX0_isSquare := goodIn_r _ [5] (by decide +kernel) (by decide +kernel)
set_option maxRecDepth 20000 in
theorem gX0_isFree_X0_isSquare : GoodIn wsX0_isFree (va_wsS RX0 45 yX0_isSquare wsX0_isSquare) := goodIn_app (goodIn_of _ (by decide +kernel)) ggX0_isFree_X0_isSquare
theorem dX0_isFree_0 : decode cX0_isFree 0 = .ok (.iload_n 1, 1) := by decide +kernel
theorem dX0_isFree_1 : decode cX0_isFree 1 = .ok (.invokestatic 45, 3) := by decide +kernel
theorem dX0_isFree_4 : decode cX0_isFree 4 = .ok (.ifCond .eq 16, 3) := by decide +kernel
theorem dX0_isFree_7 : decode cX0_isFree 7 = .ok (.aload_n 0, 1) := by decide +kernel
theorem dX0_isFree_8 : decode cX0_isFree 8 = .ok (.getfield 9, 3) := by decide +kernel
theorem dX0_isFree_11 : decode cX0_isFree 11 = .ok (.iload_n 1, 1) := by decide +kernel
theorem dX0_isFree_12 : decode cX0_isFree 12 = .ok (.iaload, 1) := by decide +kernel
theorem dX0_isFree_13 : decode cX0_isFree 13 = .ok (.ifCond .ne 7, 3) := by decide +kernel
theorem dX0_isFree_16 : decode cX0_isFree 16 = .ok (.iconst 1, 1) := by decide +kernel
theorem dX0_isFree_17 : decode cX0_isFree 17 = .ok (.goto 4, 3) := by decide +kernel
theorem dX0_isFree_20 : decode cX0_isFree 20 = .ok (.iconst 0, 1) := by decide +kernel
theorem dX0_isFree_21 : decode cX0_isFree 21 = .ok (.ireturn, 1) := by decide +kernel
set_option maxRecDepth 20000 in
theorem ggX0_holds_X0_isSquare : GoodIn wsX0_holds wsX0_isSquare := goodIn_r _ [5] (by decide +kernel) (by decide +kernel)
set_option maxRecDepth 20000 in
theorem gX0_holds_X0_isSquare : GoodIn wsX0_holds (va_wsS RX0 45 yX0_isSquare wsX0_isSquare) := goodIn_app (goodIn_of _ (by decide +kernel)) ggX0_holds_X0_isSquare
theorem dX0_holds_0 : decode cX0_holds 0 = .ok (.iload_n 1, 1) := by decide +kernel
theorem dX0_holds_1 : decode cX0_holds 1 = .ok (.invokestatic 45, 3) := by decide +kernel
theorem dX0_holds_4 : decode cX0_holds 4 = .ok (.ifCond .eq 17, 3) := by decide +kernel
theorem dX0_holds_7 : decode cX0_holds 7 = .ok (.aload_n 0, 1) := by decide +kernel
theorem dX0_holds_8 : decode cX0_holds 8 = .ok (.getfield 9, 3) := by decide +kernel
theorem dX0_holds_11 : decode cX0_holds 11 = .ok (.iload_n 1, 1) := by decide +kernel
theorem dX0_holds_12 : decode cX0_holds 12 = .ok (.iaload, 1) := by decide +kernel
theorem dX0_holds_13 : decode cX0_holds 13 = .ok (.iload_n 2, 1) := by decide +kernel
theorem dX0_holds_14 : decode cX0_holds 14 = .ok (.if_icmp .ne 7, 3) := by decide +kernel
theorem dX0_holds_17 : decode cX0_holds 17 = .ok (.iconst 1, 1) := by decide +kernel
theorem dX0_holds_18 : decode cX0_holds 18 = .ok (.goto 4, 3) := by decide +kernel
theorem dX0_holds_21 : decode cX0_holds 21 = .ok (.iconst 0, 1) := by decide +kernel
theorem dX0_holds_22 : decode cX0_holds 22 = .ok (.ireturn, 1) := by decide +kernel
theorem dX0_isSquare_0 : decode cX0_isSquare 0 = .ok (.iload_n 0, 1) := by decide +kernel
theorem dX0_isSquare_1 : decode cX0_isSquare 1 = .ok (.ifCond .lt 13, 3) := by decide +kernel
theorem dX0_isSquare_4 : decode cX0_isSquare 4 = .ok (.iload_n 0, 1) := by decide +kernel
theorem dX0_isSquare_5 : decode cX0_isSquare 5 = .ok (.bipush 64, 2) := by decide +kernel
theorem dX0_isSquare_7 : decode cX0_isSquare 7 = .ok (.if_icmp .ge 7, 3) := by decide +kernel
theorem dX0_isSquare_10 : decode cX0_isSquare 10 = .ok (.iconst 1, 1) := by decide +kernel
theorem dX0_isSquare_11 : decode cX0_isSquare 11 = .ok (.goto 4, 3) := by decide +kernel
theorem dX0_isSquare_14 : decode cX0_isSquare 14 = .ok (.iconst 0, 1) := by decide +kernel
theorem dX0_isSquare_15 : decode cX0_isSquare 15 = .ok (.ireturn, 1) := by decide +kernel
theorem dX0_fileOf_0 : decode cX0_fileOf 0 = .ok (.iload_n 0, 1) := by decide +kernel
theorem dX0_fileOf_1 : decode cX0_fileOf 1 = .ok (.bipush 7, 2) := by decide +kernel
theorem dX0_fileOf_3 : decode cX0_fileOf 3 = .ok (.iand, 1) := by decide +kernel
theorem dX0_fileOf_4 : decode cX0_fileOf 4 = .ok (.ireturn, 1) := by decide +kernel
theorem dX0_rankOf_0 : decode cX0_rankOf 0 = .ok (.iload_n 0, 1) := by decide +kernel
theorem dX0_rankOf_1 : decode cX0_rankOf 1 = .ok (.iconst 3, 1) := by decide +kernel
theorem dX0_rankOf_2 : decode cX0_rankOf 2 = .ok (.ishr, 1) := by decide +kernel
theorem dX0_rankOf_3 : decode cX0_rankOf 3 = .ok (.ireturn, 1) := by decide +kernel
set_option maxRecDepth 20000 in
theorem ggX0_isTwoFilesAway_X0_rankOf : GoodIn wsX0_isTwoFilesAway wsX0_rankOf := goodIn_r _ [8] (by decide +kernel) (by decide +kernel)
set_option maxRecDepth 20000 in
theorem gX0_isTwoFilesAway_X0_rankOf : GoodIn wsX0_isTwoFilesAway (va_wsS RX0 189 yX0_rankOf wsX0_rankOf) := goodIn_app (goodIn_of _ (by decide +kernel)) ggX0_isTwoFilesAway_X0_rankOf
theorem dX0_isTwoFilesAway_0 : decode cX0_isTwoFilesAway 0 = .ok (.iload_n 0, 1) := by decide +kernel
theorem dX0_isTwoFilesAway_1 : decode cX0_isTwoFilesAway 1 = .ok (.invokestatic 189, 3) := by decide +kernel
theorem dX0_isTwoFilesAway_4 : decode cX0_isTwoFilesAway 4 = .ok (.iload_n 1, 1) := by decide +kernel
theorem dX0_isTwoFilesAway_5 : decode cX0_isTwoFilesAway 5 = .ok (.invokestatic 189, 3) := by decide +kernel
theorem dX0_isTwoFilesAway_8 : decode cX0_isTwoFilesAway 8 = .ok (.if_icmp .ne 17, 3) := by decide +kernel
theorem dX0_isTwoFilesAway_11 : decode cX0_isTwoFilesAway 11 = .ok (.iload_n 1, 1) := by decide +kernel
theorem dX0_isTwoFilesAway_12 : decode cX0_isTwoFilesAway 12 = .ok (.iload_n 0, 1) := by decide +kernel
theorem dX0_isTwoFilesAway_13 : decode cX0_isTwoFilesAway 13 = .ok (.isub, 1) := by decide +kernel
theorem dX0_isTwoFilesAway_14 : decode cX0_isTwoFilesAway 14 = .ok (.invokestatic 240, 3) := by decide +kernel
theorem dX0_isTwoFilesAway_17 : decode cX0_isTwoFilesAway 17 = .ok (.iconst 2, 1) := by decide +kernel
theorem dX0_isTwoFilesAway_18 : decode cX0_isTwoFilesAway 18 = .ok (.if_icmp .ne 7, 3) := by decide +kernel
theorem dX0_isTwoFilesAway_21 : decode cX0_isTwoFilesAway 21 = .ok (.iconst 1, 1) := by decide +kernel
theorem dX0_isTwoFilesAway_22 : decode cX0_isTwoFilesAway 22 = .ok (.goto 4, 3) := by decide +kernel
theorem dX0_isTwoFilesAway_25 : decode cX0_isTwoFilesAway 25 = .ok (.iconst 0, 1) := by decide +kernel
theorem dX0_isTwoFilesAway_26 : decode cX0_isTwoFilesAway 26 = .ok (.ireturn, 1) := by decide +kernel
theorem dX0_cornerBeyond_0 : decode cX0_cornerBeyond 0 = .ok (.iload_n 1, 1) := by decide +kernel
theorem dX0_cornerBeyond_1 : decode cX0_cornerBeyond 1 = .ok (.iload_n 0, 1) := by decide +kernel
theorem dX0_cornerBeyond_2 : decode cX0_cornerBeyond 2 = .ok (.if_icmp .le 9, 3) := by decide +kernel
theorem dX0_cornerBeyond_5 : decode cX0_cornerBeyond 5 = .ok (.iload_n 0, 1) := by decide +kernel
theorem dX0_cornerBeyond_6 : decode cX0_cornerBeyond 6 = .ok (.iconst 3, 1) := by decide +kernel
theorem dX0_cornerBeyond_7 : decode cX0_cornerBeyond 7 = .ok (.iadd, 1) := by decide +kernel
theorem dX0_cornerBeyond_8 : decode cX0_cornerBeyond 8 = .ok (.goto 6, 3) := by decide +kernel
theorem dX0_cornerBeyond_11 : decode cX0_cornerBeyond 11 = .ok (.iload_n 0, 1) := by decide +kernel
theorem dX0_cornerBeyond_12 : decode cX0_cornerBeyond 12 = .ok (.iconst 4, 1) := by decide +kernel
theorem dX0_cornerBeyond_13 : decode cX0_cornerBeyond 13 = .ok (.isub, 1) := by decide +kernel
theorem dX0_cornerBeyond_14 : decode cX0_cornerBeyond 14 = .ok (.ireturn, 1) := by decide +kernel
theorem dX0_rightOfCorner_0 : decode cX0_rightOfCorner 0 = .ok (.iload_n 0, 1) := by decide +kernel
theorem dX0_rightOfCorner_1 : decode cX0_rightOfCorner 1 = .ok (.lookupswitch 52 #[(0, 45), (7, 43), (56, 49), (63, 47)], 43) := by decide +kernel
theorem dX0_rightOfCorner_44 : decode cX0_rightOfCorner 44 = .ok (.iconst 1, 1) := by decide +kernel
theorem dX0_rightOfCorner_45 : decode cX0_rightOfCorner 45 = .ok (.ireturn, 1) := by decide +kernel
theorem dX0_rightOfCorner_46 : decode cX0_rightOfCorner 46 = .ok (.iconst 2, 1) := by decide +kernel
theorem dX0_rightOfCorner_47 : decode cX0_rightOfCorner 47 = .ok (.ireturn, 1) := by decide +kernel
theorem dX0_rightOfCorner_48 : decode cX0_rightOfCorner 48 = .ok (.iconst 4, 1) := by decide +kernel
theorem dX0_rightOfCorner_49 : decode cX0_rightOfCorner 49 = .ok (.ireturn, 1) := by decide +kernel
theorem dX0_rightOfCorner_50 : decode cX0_rightOfCorner 50 = .ok (.bipush 8, 2) := by decide +kernel
theorem dX0_rightOfCorner_52 : decode cX0_rightOfCorner 52 = .ok (.ireturn, 1) := by decide +kernel
theorem dX0_rightOfCorner_53 : decode cX0_rightOfCorner 53 = .ok (.iconst 0, 1) := by decide +kernel
theorem dX0_rightOfCorner_54 : decode cX0_rightOfCorner 54 = .ok (.ireturn, 1) := by decide +kernel
theorem dX0_isSide_0 : decode cX0_isSide 0 = .ok (.iload_n 0, 1) := by decide +kernel
theorem dX0_isSide_1 : decode cX0_isSide 1 = .ok (.ifCond .eq 8, 3) := by decide +kernel
theorem dX0_isSide_4 : decode cX0_isSide 4 = .ok (.iload_n 0, 1) := by decide +kernel
theorem dX0_isSide_5 : decode cX0_isSide 5 = .ok (.iconst 1, 1) := by decide +kernel
theorem dX0_isSide_6 : decode cX0_isSide 6 = .ok (.if_icmp .ne 7, 3) := by decide +kernel
theorem dX0_isSide_9 : decode cX0_isSide 9 = .ok (.iconst 1, 1) := by decide +kernel
theorem dX0_isSide_10 : decode cX0_isSide 10 = .ok (.goto 4, 3) := by decide +kernel
theorem dX0_isSide_13 : decode cX0_isSide 13 = .ok (.iconst 0, 1) := by decide +kernel
theorem dX0_isSide_14 : decode cX0_isSide 14 = .ok (.ireturn, 1) := by decide +kernel
theorem dX0_otherThan_0 : decode cX0_otherThan 0 = .ok (.iconst 1, 1) := by decide +kernel
theorem dX0_otherThan_1 : decode cX0_otherThan 1 = .ok (.iload_n 0, 1) := by decide +kernel
theorem dX0_otherThan_2 : decode cX0_otherThan 2 = .ok (.isub, 1) := by decide +kernel
theorem dX0_otherThan_3 : decode cX0_otherThan 3 = .ok (.ireturn, 1) := by decide +kernel
theorem dX0_onward_0 : decode cX0_onward 0 = .ok (.iload_n 0, 1) := by decide +kernel
theorem dX0_onward_1 : decode cX0_onward 1 = .ok (.ifCond .ne 7, 3) := by decide +kernel
theorem dX0_onward_4 : decode cX0_onward 4 = .ok (.iconst 1, 1) := by decide +kernel
theorem dX0_onward_5 : decode cX0_onward 5 = .ok (.goto 4, 3) := by decide +kernel
theorem dX0_onward_8 : decode cX0_onward 8 = .ok (.iconst (-1), 1) := by decide +kernel
theorem dX0_onward_9 : decode cX0_onward 9 = .ok (.ireturn, 1) := by decide +kernel
theorem dX0_secondRankOf_0 : decode cX0_secondRankOf 0 = .ok (.iload_n 0, 1) := by decide +kernel
theorem dX0_secondRankOf_1 : decode cX0_secondRankOf 1 = .ok (.ifCond .ne 7, 3) := by decide +kernel
theorem dX0_secondRankOf_4 : decode cX0_secondRankOf 4 = .ok (.iconst 1, 1) := by decide +kernel
