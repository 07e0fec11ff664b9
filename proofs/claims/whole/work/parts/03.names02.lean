def wsL_law0_r9 : List Cond := [Cond.selects RX0 yX0_isFree yX0_isFree, Cond.code yX0_isFree cX0_isFree 2 (some .boolean), Cond.methodLink RX0 210 yX0_secondRankOf, Cond.static yX0_secondRankOf, Cond.code yX0_secondRankOf cX0_secondRankOf 1 (some .int), Cond.methodLink RX0 198 yX0_pawnTakes, Cond.instanceMethod yX0_pawnTakes, Cond.selects RX0 yX0_pawnTakes yX0_pawnTakes, Cond.code yX0_pawnTakes cX0_pawnTakes 3 (some .boolean), Cond.methodLink RX0 213 yX0_pawnAttacks, Cond.static yX0_pawnAttacks, Cond.code yX0_pawnAttacks cX0_pawnAttacks 3 (some .boolean), Cond.methodLink RX0 240 Lib.Math.abs.name, Cond.static Lib.Math.abs.name, Cond.initialized "java/lang/Math", Cond.code Lib.Math.abs.name Lib.Math.abs.code 1 (some .int), Cond.methodLink RX0 237 yX0_fileOf, Cond.static yX0_fileOf, Cond.code yX0_fileOf cX0_fileOf 1 (some .int), Cond.methodLink RX0 152 yX0_otherThan, Cond.static yX0_otherThan, Cond.code yX0_otherThan cX0_otherThan 1 (some .int), Cond.methodLink RX0 216 yX0_canBeTakenInPassing, Cond.instanceMethod yX0_canBeTakenInPassing]
def wsL_law0_r10 : List Cond := [Cond.selects RX0 yX0_canBeTakenInPassing yX0_canBeTakenInPassing, Cond.code yX0_canBeTakenInPassing cX0_canBeTakenInPassing 2 (some .boolean), Cond.methodLink RX0 219 yX0_squareBehind, Cond.instanceMethod yX0_squareBehind, Cond.selects RX0 yX0_squareBehind yX0_squareBehind, Cond.code yX0_squareBehind cX0_squareBehind 2 (some .int), Cond.methodLink RX0 222 yX0_holds, Cond.instanceMethod yX0_holds, Cond.selects RX0 yX0_holds yX0_holds, Cond.code yX0_holds cX0_holds 3 (some .boolean), Cond.methodLink RX0 160 yX0_attacks, Cond.instanceMethod yX0_attacks, Cond.selects RX0 yX0_attacks yX0_attacks, Cond.code yX0_attacks cX0_attacks 8 (some .boolean), Cond.methodLink RX0 234 yX0_isOpen, Cond.instanceMethod yX0_isOpen, Cond.selects RX0 yX0_isOpen yX0_isOpen, Cond.code yX0_isOpen cX0_isOpen 8 (some .boolean), Cond.methodLink RX0 250 Lib.Math.max.name, Cond.static Lib.Math.max.name, Cond.code Lib.Math.max.name Lib.Math.max.code 2 (some .int), Cond.methodLink RX0 245 yJ6_compare_7cf53, Cond.static yJ6_compare_7cf53, Cond.initialized RJ6]
def wsL_law0_r11 : List Cond := [Cond.code yJ6_compare_7cf53 cJ6_compare_7cf53 2 (some .int), Cond.methodLink RX0 201 yX0_castles, Cond.instanceMethod yX0_castles, Cond.selects RX0 yX0_castles yX0_castles, Cond.code yX0_castles cX0_castles 4 (some .boolean), Cond.methodLink RX0 225 yX0_homeOfKing, Cond.static yX0_homeOfKing, Cond.code yX0_homeOfKing cX0_homeOfKing 1 (some .int), Cond.methodLink RX0 228 yX0_isTwoFilesAway, Cond.static yX0_isTwoFilesAway, Cond.code yX0_isTwoFilesAway cX0_isTwoFilesAway 2 (some .boolean), Cond.methodLink RX0 231 yX0_cornerBeyond, Cond.static yX0_cornerBeyond, Cond.code yX0_cornerBeyond cX0_cornerBeyond 2 (some .int), Cond.methodLink RX0 146 yX0_rightOfCorner, Cond.static yX0_rightOfCorner, Cond.code yX0_rightOfCorner cX0_rightOfCorner 1 (some .int), Cond.methodLink RL 73 yX1_fits, Cond.instanceMethod yX1_fits, Cond.selects RX1 yX1_fits yX1_fits, Cond.code yX1_fits cX1_fits 2 (some .boolean), Cond.methodLink RX1 90 yX1_isMove, Cond.instanceMethod yX1_isMove, Cond.selects RX1 yX1_isMove yX1_isMove]
def wsL_law0_r12 : List Cond := [Cond.code yX1_isMove cX1_isMove 6 (some .boolean), Cond.methodLink RX1 61 yX1_kindOf, Cond.static yX1_kindOf, Cond.code yX1_kindOf cX1_kindOf 1 (some .int), Cond.methodLink RX1 68 yX1_sideOf, Cond.static yX1_sideOf, Cond.code yX1_sideOf cX1_sideOf 1 (some .int), Cond.methodLink RX1 84 yX1_pawnGoes, Cond.instanceMethod yX1_pawnGoes, Cond.selects RX1 yX1_pawnGoes yX1_pawnGoes, Cond.code yX1_pawnGoes cX1_pawnGoes 4 (some .boolean), Cond.methodLink RX1 75 yX1_attacks, Cond.instanceMethod yX1_attacks, Cond.selects RX1 yX1_attacks yX1_attacks, Cond.code yX1_attacks cX1_attacks 8 (some .boolean), Cond.methodLink RX1 64 yX1_apart, Cond.static yX1_apart, Cond.code yX1_apart cX1_apart 2 (some .int), Cond.methodLink RX1 71 yX1_isFree, Cond.instanceMethod yX1_isFree, Cond.selects RX1 yX1_isFree yX1_isFree, Cond.code yX1_isFree cX1_isFree 7 (some .boolean), Cond.methodLink RX1 81 yX1_takesPassing, Cond.instanceMethod yX1_takesPassing]
def wsL_law0_r13 : List Cond := [Cond.selects RX1 yX1_takesPassing yX1_takesPassing, Cond.code yX1_takesPassing cX1_takesPassing 4 (some .boolean), Cond.methodLink RX1 87 yX1_castles, Cond.instanceMethod yX1_castles, Cond.selects RX1 yX1_castles yX1_castles, Cond.code yX1_castles cX1_castles 7 (some .boolean), Cond.methodLink RL 74 yL_make, Cond.static yL_make, Cond.codeWith yL_make cL_make 4 (some .int) [(0, 9, 12, 15), (0, 9, 15, 17)], Cond.methodLink RL 26 yX0_make, Cond.instanceMethod yX0_make, Cond.selects RX0 yX0_make yX0_make, Cond.code yX0_make cX0_make 7 (some .int), Cond.methodLink RX0 122 yX0_fits, Cond.methodLink RX0 132 yX0_squareTaken, Cond.instanceMethod yX0_squareTaken, Cond.selects RX0 yX0_squareTaken yX0_squareTaken, Cond.code yX0_squareTaken cX0_squareTaken 4 (some .int), Cond.methodLink RX0 135 yX0_remember, Cond.instanceMethod yX0_remember, Cond.selects RX0 yX0_remember yX0_remember, Cond.code yX0_remember cX0_remember 4 none, Cond.methodLink RX0 139 yX0_carryOver, Cond.instanceMethod yX0_carryOver]
def wsL_law0_r14 : List Cond := [Cond.selects RX0 yX0_carryOver yX0_carryOver, Cond.code yX0_carryOver cX0_carryOver 7 none, Cond.methodLink RX0 253 yX0_isCastling, Cond.static yX0_isCastling, Cond.code yX0_isCastling cX0_isCastling 3 (some .boolean), Cond.methodLink RX0 256 yX0_shift, Cond.instanceMethod yX0_shift, Cond.selects RX0 yX0_shift yX0_shift, Cond.code yX0_shift cX0_shift 3 none, Cond.methodLink RX0 143 yX0_rightsOfKing, Cond.static yX0_rightsOfKing, Cond.code yX0_rightsOfKing cX0_rightsOfKing 1 (some .int), Cond.methodLink RX0 149 yX0_passingBehind, Cond.instanceMethod yX0_passingBehind, Cond.selects RX0 yX0_passingBehind yX0_passingBehind, Cond.code yX0_passingBehind cX0_passingBehind 6 (some .int), Cond.methodLink RL 77 yX1_make, Cond.instanceMethod yX1_make, Cond.selects RX1 yX1_make yX1_make, Cond.code yX1_make cX1_make 12 (some .int), Cond.methodLink RX1 93 yX1_keep, Cond.instanceMethod yX1_keep, Cond.selects RX1 yX1_keep yX1_keep, Cond.code yX1_keep cX1_keep 3 none]
def wsL_law0_r15 : List Cond := [Cond.methodLink RX1 97 yX1_corner, Cond.static yX1_corner, Cond.code yX1_corner cX1_corner 1 (some .int), Cond.methodLink RX1 100 yX1_pawnAttacks, Cond.instanceMethod yX1_pawnAttacks, Cond.selects RX1 yX1_pawnAttacks yX1_pawnAttacks, Cond.code yX1_pawnAttacks cX1_pawnAttacks 5 (some .boolean), Cond.methodLink RL 78 yL_unmake, Cond.static yL_unmake, Cond.codeWith yL_unmake cL_unmake 3 (some .int) [(0, 8, 11, 17)], Cond.methodLink RL 30 yX0_unmake, Cond.instanceMethod yX0_unmake, Cond.selects RX0 yX0_unmake yX0_unmake, Cond.code yX0_unmake cX0_unmake 2 (some .int), Cond.methodLink RX0 157 yX0_carryBack, Cond.instanceMethod yX0_carryBack, Cond.selects RX0 yX0_carryBack yX0_carryBack, Cond.code yX0_carryBack cX0_carryBack 7 none, Cond.methodLink RL 81 yX1_unmake, Cond.instanceMethod yX1_unmake, Cond.selects RX1 yX1_unmake yX1_unmake, Cond.code yX1_unmake cX1_unmake 2 (some .int), Cond.methodLink RL 82 yL_at, Cond.static yL_at]
def wsL_law0_r16 : List Cond := [Cond.codeWith yL_at cL_at 4 (some .int) [(0, 9, 12, 13)], Cond.methodLink RL 34 yX0_at, Cond.instanceMethod yX0_at, Cond.selects RX0 yX0_at yX0_at, Cond.code yX0_at cX0_at 2 (some .int), Cond.methodLink RL 84 yX1_at, Cond.instanceMethod yX1_at, Cond.selects RX1 yX1_at yX1_at, Cond.code yX1_at cX1_at 2 (some .int), Cond.methodLink RL 85 yX0_where, Cond.methodLink RL 89 yX1_where, Cond.instanceMethod yX1_where, Cond.selects RX1 yX1_where yX1_where, Cond.code yX1_where cX1_where 5 (some .long), Cond.methodLink RL 90 yL_attackers, Cond.static yL_attackers, Cond.codeWith yL_attackers cL_attackers 5 (some .int) [(0, 9, 12, 13), (0, 9, 16, 15)], Cond.methodLink RL 37 yX0_attackers, Cond.instanceMethod yX0_attackers, Cond.selects RX0 yX0_attackers yX0_attackers, Cond.code yX0_attackers cX0_attackers 6 (some .long), Cond.methodLink RL 93 yX1_attackers, Cond.instanceMethod yX1_attackers, Cond.selects RX1 yX1_attackers yX1_attackers]
def wsL_law0_r17 : List Cond := [Cond.code yX1_attackers cX1_attackers 6 (some .long), Cond.methodLink RL 94 yX0_check, Cond.instanceMethod yX0_check, Cond.selects RX0 yX0_check yX0_check, Cond.code yX0_check cX0_check 3 (some .boolean), Cond.methodLink RX0 163 yX0_attackers, Cond.methodLink RL 97 yX1_check, Cond.instanceMethod yX1_check, Cond.selects RX1 yX1_check yX1_check, Cond.code yX1_check cX1_check 4 (some .boolean), Cond.methodLink RX1 78 yX1_isAttacked, Cond.instanceMethod yX1_isAttacked, Cond.selects RX1 yX1_isAttacked yX1_isAttacked, Cond.code yX1_isAttacked cX1_isAttacked 5 (some .boolean), Cond.methodLink RL 98 yX0_key, Cond.instanceMethod yX0_key, Cond.selects RX0 yX0_key yX0_key, Cond.code yX0_key cX0_key 4 (some .long), Cond.constantLong RX0 171 (2000), Cond.methodLink RX0 167 yX0_mixed, Cond.static yX0_mixed, Cond.code yX0_mixed cX0_mixed 2 (some .long), Cond.constantLong RX0 259 (-7046029254386353131), Cond.constantLong RX0 261 (-4658895280553007687)]
def wsL_law0_r18 : List Cond := [Cond.constantLong RX0 263 (-7723592293110705685), Cond.methodLink RL 102 yX1_key, Cond.instanceMethod yX1_key, Cond.selects RX1 yX1_key yX1_key, Cond.code yX1_key cX1_key 4 (some .long), Cond.constantLong RX1 109 (900), Cond.constantLong RX1 115 (1000), Cond.constantLong RX1 117 (64), Cond.constantLong RX1 119 (2000), Cond.methodLink RX1 111 yX1_mixed, Cond.static yX1_mixed, Cond.code yX1_mixed cX1_mixed 4 (some .long), Cond.constantLong RX1 103 (-7046029254386353131), Cond.constantLong RX1 105 (-4658895280553007687), Cond.constantLong RX1 107 (-7723592293110705685), Cond.methodLink RL 103 yX0_move, Cond.instanceMethod yX0_move, Cond.selects RX0 yX0_move yX0_move, Cond.code yX0_move cX0_move 2 (some .int), Cond.methodLink RL 106 yX1_move, Cond.instanceMethod yX1_move, Cond.selects RX1 yX1_move yX1_move, Cond.code yX1_move cX1_move 2 (some .int), Cond.methodLink RL 107 yX0_look]
def wsL_law0_r19 : List Cond := [Cond.instanceMethod yX0_look, Cond.selects RX0 yX0_look yX0_look, Cond.code yX0_look cX0_look 2 (some .int), Cond.methodLink RX0 173 yX0_material, Cond.instanceMethod yX0_material, Cond.selects RX0 yX0_material yX0_material, Cond.code yX0_material cX0_material 4 (some .int), Cond.methodLink RX0 186 yX0_worthOf, Cond.static yX0_worthOf, Cond.code yX0_worthOf cX0_worthOf 1 (some .int), Cond.methodLink RL 110 yX1_look, Cond.instanceMethod yX1_look, Cond.selects RX1 yX1_look yX1_look, Cond.code yX1_look cX1_look 2 (some .int), Cond.methodLink RX1 121 yX1_material, Cond.instanceMethod yX1_material, Cond.selects RX1 yX1_material yX1_material, Cond.code yX1_material cX1_material 5 (some .int)]
def wsL_law0 : List Cond := (wsL_law0_r1 ++ (wsL_law0_r2 ++ (wsL_law0_r3 ++ (wsL_law0_r4 ++ (wsL_law0_r5 ++ (wsL_law0_r6 ++ (wsL_law0_r7 ++ (wsL_law0_r8 ++ (wsL_law0_r9 ++ (wsL_law0_r10 ++ (wsL_law0_r11 ++ (wsL_law0_r12 ++ (wsL_law0_r13 ++ (wsL_law0_r14 ++ (wsL_law0_r15 ++ (wsL_law0_r16 ++ (wsL_law0_r17 ++ (wsL_law0_r18 ++ wsL_law0_r19)))))))))))))))))) ++ wsX00 ++ wsX10 ++ ([] : List Cond)
def wsL_law : List Cond := wsL_law0 ++ (vx_atS RX0 53 "java/lang/IndexOutOfBoundsException" ["java/lang/RuntimeException", "java/lang/Exception"]).filter goodWord ++ (vx_atS RX0 60 "java/lang/IllegalArgumentException" ["java/lang/RuntimeException", "java/lang/Exception"]).filter goodWord ++ (vx_atS RX0 69 "java/lang/IllegalStateException" ["java/lang/RuntimeException", "java/lang/Exception"]).filter goodWord
theorem mem_r {big : List Cond} (ws : List Cond) (ps : List Nat) (hp : ws = ps.filterMap (fun i => big[i]?)) : ∀ w ∈ ws, w ∈ big := fun w hw => by
  rw [hp] at hw
  obtain ⟨i, -, hi⟩ := List.mem_filterMap.mp hw
  exact List.mem_of_getElem? hi
set_option maxRecDepth 20000 in
theorem in_wsL_law0_r1 : ∀ w ∈ wsL_law0_r1, w ∈ lw_tbl := mem_r _ [44, 45, 33, 461, 462, 34, 639, 46, 47, 48, 49, 50, 51, 100, 60, 67, 68, 69, 70, 71, 72, 52, 54, 0] (by decide +kernel)
set_option maxRecDepth 20000 in
theorem in_wsL_law0_r2 : ∀ w ∈ wsL_law0_r2, w ∈ lw_tbl := mem_r _ [55, 61, 62, 63, 64, 65, 56, 58, 1, 59, 66, 463, 464, 465, 466, 469, 472, 474, 476, 467, 303, 477, 478, 101] (by decide +kernel)
set_option maxRecDepth 20000 in
theorem in_wsL_law0_r3 : ∀ w ∈ wsL_law0_r3, w ∈ lw_tbl := mem_r _ [102, 103, 104, 506, 507, 508, 509, 468, 470, 471, 473, 475, 105, 106, 107, 108, 109, 111, 112, 113, 510, 511, 512, 513] (by decide +kernel)
set_option maxRecDepth 20000 in
theorem in_wsL_law0_r4 : ∀ w ∈ wsL_law0_r4, w ∈ lw_tbl := mem_r _ [514, 515, 516, 517, 357, 358, 32, 359, 360, 361, 362, 363, 364, 365, 366, 236, 38, 304, 39, 368, 41, 157, 158, 159] (by decide +kernel)
set_option maxRecDepth 20000 in
theorem in_wsL_law0_r5 : ∀ w ∈ wsL_law0_r5, w ∈ lw_tbl := mem_r _ [339, 341, 13, 342, 343, 222, 223, 224, 344, 345, 40, 346, 347, 348, 349, 518, 519, 520, 521, 522, 523, 524, 525, 527] (by decide +kernel)
set_option maxRecDepth 20000 in
theorem in_wsL_law0_r6 : ∀ w ∈ wsL_law0_r6, w ∈ lw_tbl := mem_r _ [21, 528, 502, 503, 504, 505, 384, 385, 386, 387, 388, 389, 390, 229, 230, 231, 529, 530, 531, 532, 393, 394, 395, 396] (by decide +kernel)
set_option maxRecDepth 20000 in
theorem in_wsL_law0_r7 : ∀ w ∈ wsL_law0_r7, w ∈ lw_tbl := mem_r _ [397, 398, 399, 533, 534, 535, 536, 114, 115, 116, 117, 118, 119, 120, 121, 122, 123, 124, 125, 126, 127, 128, 129, 130] (by decide +kernel)
set_option maxRecDepth 20000 in
theorem in_wsL_law0_r8 : ∀ w ∈ wsL_law0_r8, w ∈ lw_tbl := mem_r _ [131, 132, 133, 134, 135, 136, 137, 138, 139, 140, 141, 142, 144, 2, 145, 146, 148, 3, 149, 150, 151, 152, 153, 155] (by decide +kernel)
set_option maxRecDepth 20000 in
theorem in_wsL_law0_r9 : ∀ w ∈ wsL_law0_r9, w ∈ lw_tbl := mem_r _ [4, 156, 160, 161, 162, 163, 165, 5, 166, 167, 168, 169, 173, 174, 42, 175, 170, 171, 172, 176, 177, 178, 179, 181] (by decide +kernel)
set_option maxRecDepth 20000 in
theorem in_wsL_law0_r10 : ∀ w ∈ wsL_law0_r10, w ∈ lw_tbl := mem_r _ [6, 182, 183, 185, 7, 186, 187, 189, 8, 190, 191, 193, 9, 194, 195, 197, 10, 198, 202, 203, 204, 199, 200, 43] (by decide +kernel)
set_option maxRecDepth 20000 in
theorem in_wsL_law0_r11 : ∀ w ∈ wsL_law0_r11, w ∈ lw_tbl := mem_r _ [201, 205, 207, 11, 208, 209, 210, 211, 212, 213, 214, 215, 216, 217, 218, 219, 220, 566, 567, 568, 569, 570, 572, 25] (by decide +kernel)
set_option maxRecDepth 20000 in
theorem in_wsL_law0_r12 : ∀ w ∈ wsL_law0_r12, w ∈ lw_tbl := mem_r _ [573, 548, 549, 550, 541, 542, 543, 574, 576, 26, 577, 544, 546, 22, 547, 551, 552, 553, 554, 556, 23, 557, 578, 580] (by decide +kernel)
set_option maxRecDepth 20000 in
theorem in_wsL_law0_r13 : ∀ w ∈ wsL_law0_r13, w ∈ lw_tbl := mem_r _ [27, 581, 582, 584, 28, 585, 402, 403, 404, 405, 406, 407, 408, 409, 412, 414, 15, 415, 416, 418, 16, 419, 420, 422] (by decide +kernel)
set_option maxRecDepth 20000 in
theorem in_wsL_law0_r14 : ∀ w ∈ wsL_law0_r14, w ∈ lw_tbl := mem_r _ [17, 423, 424, 425, 426, 427, 429, 18, 430, 431, 432, 433, 434, 436, 19, 437, 586, 587, 588, 589, 590, 592, 29, 593] (by decide +kernel)
set_option maxRecDepth 20000 in
theorem in_wsL_law0_r15 : ∀ w ∈ wsL_law0_r15, w ∈ lw_tbl := mem_r _ [594, 595, 596, 597, 599, 30, 600, 438, 439, 440, 441, 442, 443, 444, 446, 448, 20, 449, 601, 602, 603, 604, 450, 451] (by decide +kernel)
set_option maxRecDepth 20000 in
theorem in_wsL_law0_r16 : ∀ w ∈ wsL_law0_r16, w ∈ lw_tbl := mem_r _ [452, 453, 454, 455, 456, 605, 606, 607, 608, 221, 609, 610, 611, 612, 457, 458, 459, 460, 233, 234, 235, 537, 538, 539] (by decide +kernel)
set_option maxRecDepth 20000 in
theorem in_wsL_law0_r17 : ∀ w ∈ wsL_law0_r17, w ∈ lw_tbl := mem_r _ [540, 225, 226, 227, 228, 232, 558, 559, 560, 561, 562, 564, 24, 565, 320, 321, 322, 323, 330, 324, 325, 326, 327, 328] (by decide +kernel)
set_option maxRecDepth 20000 in
theorem in_wsL_law0_r18 : ∀ w ∈ wsL_law0_r18, w ∈ lw_tbl := mem_r _ [329, 613, 614, 615, 616, 617, 624, 625, 626, 618, 619, 620, 621, 622, 623, 331, 332, 333, 334, 627, 628, 629, 630, 335] (by decide +kernel)
set_option maxRecDepth 20000 in
theorem in_wsL_law0_r19 : ∀ w ∈ wsL_law0_r19, w ∈ lw_tbl := mem_r _ [336, 337, 338, 350, 352, 14, 353, 354, 355, 356, 631, 632, 633, 634, 635, 637, 31, 638] (by decide +kernel)
set_option maxRecDepth 20000 in
theorem in_wsX00 : ∀ w ∈ wsX00, w ∈ lw_tbl := mem_r _ [73, 75, 77, 79, 81, 83, 85, 87, 89, 91, 93, 95, 97] (by decide +kernel)
set_option maxRecDepth 20000 in
theorem in_wsX10 : ∀ w ∈ wsX10, w ∈ lw_tbl := mem_r _ [479, 481, 483, 485, 487, 489, 491, 493, 495, 497, 499] (by decide +kernel)
theorem wsL_law_in0 : ∀ w ∈ wsL_law0, w ∈ lw_tbl := fun w h => (List.mem_append.mp h).elim (fun h => (List.mem_append.mp h).elim (fun h => (List.mem_append.mp h).elim (fun h => (List.mem_append.mp h).elim (fun h => in_wsL_law0_r1 w h) (fun h => (List.mem_append.mp h).elim (fun h => in_wsL_law0_r2 w h) (fun h => (List.mem_append.mp h).elim (fun h => in_wsL_law0_r3 w h) (fun h => (List.mem_append.mp h).elim (fun h => in_wsL_law0_r4 w h) (fun h => (List.mem_append.mp h).elim (fun h => in_wsL_law0_r5 w h) (fun h => (List.mem_append.mp h).elim (fun h => in_wsL_law0_r6 w h) (fun h => (List.mem_append.mp h).elim (fun h => in_wsL_law0_r7 w h) (fun h => (List.mem_append.mp h).elim (fun h => in_wsL_law0_r8 w h) (fun h => (List.mem_append.mp h).elim (fun h => in_wsL_law0_r9 w h) (fun h => (List.mem_append.mp h).elim (fun h => in_wsL_law0_r10 w h) (fun h => (List.mem_append.mp h).elim (fun h => in_wsL_law0_r11 w h) (fun h => (List.mem_append.mp h).elim (fun h => in_wsL_law0_r12 w h) (fun h => (List.mem_append.mp h).elim (fun h => in_wsL_law0_r13 w h) (fun h => (List.mem_append.mp h).elim (fun h => in_wsL_law0_r14 w h) (fun h => (List.mem_append.mp h).elim (fun h => in_wsL_law0_r15 w h) (fun h => (List.mem_append.mp h).elim (fun h => in_wsL_law0_r16 w h) (fun h => (List.mem_append.mp h).elim (fun h => in_wsL_law0_r17 w h) (fun h => (List.mem_append.mp h).elim (fun h => in_wsL_law0_r18 w h) (fun h => in_wsL_law0_r19 w h))))))))))))))))))) (fun h => in_wsX00 w h)) (fun h => in_wsX10 w h)) (fun h => absurd h List.not_mem_nil)
theorem wsL_law_x0 : ∀ w ∈ (vx_atS RX0 53 "java/lang/IndexOutOfBoundsException" ["java/lang/RuntimeException", "java/lang/Exception"]).filter goodWord, w ∈ lw_tbl := by decide +kernel
theorem wsL_law_x1 : ∀ w ∈ (vx_atS RX0 60 "java/lang/IllegalArgumentException" ["java/lang/RuntimeException", "java/lang/Exception"]).filter goodWord, w ∈ lw_tbl := by decide +kernel
theorem wsL_law_x2 : ∀ w ∈ (vx_atS RX0 69 "java/lang/IllegalStateException" ["java/lang/RuntimeException", "java/lang/Exception"]).filter goodWord, w ∈ lw_tbl := by decide +kernel
theorem wsL_law_in : ∀ w ∈ wsL_law, w ∈ lw_tbl := fun w h => (List.mem_append.mp h).elim (fun h => (List.mem_append.mp h).elim (fun h => (List.mem_append.mp h).elim (fun h => wsL_law_in0 w h) (fun h => wsL_law_x0 w h)) (fun h => wsL_law_x1 w h)) (fun h => wsL_law_x2 w h)
theorem inlX0 : ∀ w ∈ wsX00, w ∈ wsL_law := fun _ h => List.mem_append_left _ (List.mem_append_left _ (List.mem_append_left _ (List.mem_append_left _ (List.mem_append_left _ (List.mem_append_right _ h)))))
theorem inX0 : ∀ w ∈ wsX00, w ∈ lw_tbl := fun w h => wsL_law_in w (inlX0 w h)
theorem inlX1 : ∀ w ∈ wsX10, w ∈ wsL_law := fun _ h => List.mem_append_left _ (List.mem_append_left _ (List.mem_append_left _ (List.mem_append_left _ (List.mem_append_right _ h))))
theorem inX1 : ∀ w ∈ wsX10, w ∈ lw_tbl := fun w h => wsL_law_in w (inlX1 w h)
theorem inJ6 : ∀ w ∈ wsJ60, w ∈ lw_tbl := by decide +kernel
theorem inJ13 : ∀ w ∈ wsJ130, w ∈ lw_tbl := by decide +kernel
theorem inJ9 : ∀ w ∈ wsJ90, w ∈ lw_tbl := by decide +kernel
theorem inJ0 : ∀ w ∈ wsJ00, w ∈ lw_tbl := by decide +kernel
set_option maxRecDepth 20000 in
theorem ggX0_init_X0_setAllAsAtFirst : GoodIn wsX0_init wsX0_setAllAsAtFirst := goodIn_r _ [16, 5, 17, 18, 19, 20, 21, 22, 23, 24, 15, 25, 26, 27, 28, 29, 30, 31, 32, 33, 34, 35, 36, 37, 38, 39] (by decide +kernel) (by decide +kernel)
set_option maxRecDepth 20000 in
theorem gX0_init_X0_setAllAsAtFirst : GoodIn wsX0_init (wsV RX0 31 RX0 yX0_setAllAsAtFirst wsX0_setAllAsAtFirst) := goodIn_app (goodIn_of _ (by decide +kernel)) ggX0_init_X0_setAllAsAtFirst
theorem dX0_init_0 : decode cX0_init 0 = .ok (.aload_n 0, 1) := by decide +kernel
theorem dX0_init_1 : decode cX0_init 1 = .ok (.invokespecial 1, 3) := by decide +kernel
theorem dX0_init_4 : decode cX0_init 4 = .ok (.aload_n 0, 1) := by decide +kernel
theorem dX0_init_5 : decode cX0_init 5 = .ok (.bipush 64, 2) := by decide +kernel
theorem dX0_init_7 : decode cX0_init 7 = .ok (.newarray .int, 2) := by decide +kernel
theorem dX0_init_9 : decode cX0_init 9 = .ok (.putfield 9, 3) := by decide +kernel
theorem dX0_init_12 : decode cX0_init 12 = .ok (.aload_n 0, 1) := by decide +kernel
theorem dX0_init_13 : decode cX0_init 13 = .ok (.sipush 600, 3) := by decide +kernel
theorem dX0_init_16 : decode cX0_init 16 = .ok (.newarray .int, 2) := by decide +kernel
theorem dX0_init_18 : decode cX0_init 18 = .ok (.putfield 13, 3) := by decide +kernel
theorem dX0_init_21 : decode cX0_init 21 = .ok (.aload_n 0, 1) := by decide +kernel
theorem dX0_init_22 : decode cX0_init 22 = .ok (.sipush 600, 3) := by decide +kernel
theorem dX0_init_25 : decode cX0_init 25 = .ok (.newarray .int, 2) := by decide +kernel
theorem dX0_init_27 : decode cX0_init 27 = .ok (.putfield 16, 3) := by decide +kernel
theorem dX0_init_30 : decode cX0_init 30 = .ok (.aload_n 0, 1) := by decide +kernel
theorem dX0_init_31 : decode cX0_init 31 = .ok (.sipush 600, 3) := by decide +kernel
theorem dX0_init_34 : decode cX0_init 34 = .ok (.newarray .int, 2) := by decide +kernel
theorem dX0_init_36 : decode cX0_init 36 = .ok (.putfield 19, 3) := by decide +kernel
theorem dX0_init_39 : decode cX0_init 39 = .ok (.aload_n 0, 1) := by decide +kernel
theorem dX0_init_40 : decode cX0_init 40 = .ok (.sipush 600, 3) := by decide +kernel
theorem dX0_init_43 : decode cX0_init 43 = .ok (.newarray .int, 2) := by decide +kernel
theorem dX0_init_45 : decode cX0_init 45 = .ok (.putfield 22, 3) := by decide +kernel
theorem dX0_init_48 : decode cX0_init 48 = .ok (.aload_n 0, 1) := by decide +kernel
theorem dX0_init_49 : decode cX0_init 49 = .ok (.sipush 600, 3) := by decide +kernel
theorem dX0_init_52 : decode cX0_init 52 = .ok (.newarray .int, 2) := by decide +kernel
theorem dX0_init_54 : decode cX0_init 54 = .ok (.putfield 25, 3) := by decide +kernel
theorem dX0_init_57 : decode cX0_init 57 = .ok (.aload_n 0, 1) := by decide +kernel
theorem dX0_init_58 : decode cX0_init 58 = .ok (.sipush 600, 3) := by decide +kernel
theorem dX0_init_61 : decode cX0_init 61 = .ok (.newarray .int, 2) := by decide +kernel
theorem dX0_init_63 : decode cX0_init 63 = .ok (.putfield 28, 3) := by decide +kernel
theorem dX0_init_66 : decode cX0_init 66 = .ok (.aload_n 0, 1) := by decide +kernel
theorem dX0_init_67 : decode cX0_init 67 = .ok (.invokevirtual 31, 3) := by decide +kernel
theorem dX0_init_70 : decode cX0_init 70 = .ok (.return_, 1) := by decide +kernel
set_option maxRecDepth 20000 in
theorem ggX0_clear_X0_setAllAsAtFirst : GoodIn wsX0_clear wsX0_setAllAsAtFirst := goodIn_r _ [5, 6, 7, 8, 9, 10, 11, 12, 13, 14, 4, 15, 16, 17, 18, 19, 20, 21, 22, 23, 24, 25, 26, 27, 28, 29] (by decide +kernel) (by decide +kernel)
set_option maxRecDepth 20000 in
theorem gX0_clear_X0_setAllAsAtFirst : GoodIn wsX0_clear (wsV RX0 31 RX0 yX0_setAllAsAtFirst wsX0_setAllAsAtFirst) := goodIn_app (goodIn_of _ (by decide +kernel)) ggX0_clear_X0_setAllAsAtFirst
theorem dX0_clear_0 : decode cX0_clear 0 = .ok (.aload_n 0, 1) := by decide +kernel
theorem dX0_clear_1 : decode cX0_clear 1 = .ok (.invokevirtual 31, 3) := by decide +kernel
theorem dX0_clear_4 : decode cX0_clear 4 = .ok (.return_, 1) := by decide +kernel
set_option maxRecDepth 20000 in
theorem ggX0_begin_X0_setAllAsAtFirst : GoodIn wsX0_begin wsX0_setAllAsAtFirst := goodIn_r _ [8, 2, 9, 3, 10, 11, 12, 13, 14, 15, 7, 16, 17, 21, 22, 23, 24, 25, 26, 27, 28, 29, 30, 31, 32, 33] (by decide +kernel) (by decide +kernel)
set_option maxRecDepth 20000 in
theorem gX0_begin_X0_setAllAsAtFirst : GoodIn wsX0_begin (wsV RX0 31 RX0 yX0_setAllAsAtFirst wsX0_setAllAsAtFirst) := goodIn_app (goodIn_of _ (by decide +kernel)) ggX0_begin_X0_setAllAsAtFirst
set_option maxRecDepth 20000 in
theorem ggX0_begin_X0_pieceOf : GoodIn wsX0_begin wsX0_pieceOf := goodIn_r _ [20] (by decide +kernel) (by decide +kernel)
set_option maxRecDepth 20000 in
theorem gX0_begin_X0_pieceOf : GoodIn wsX0_begin (va_wsS RX0 37 yX0_pieceOf wsX0_pieceOf) := goodIn_app (goodIn_of _ (by decide +kernel)) ggX0_begin_X0_pieceOf
theorem dX0_begin_0 : decode cX0_begin 0 = .ok (.aload_n 0, 1) := by decide +kernel
theorem dX0_begin_1 : decode cX0_begin 1 = .ok (.invokevirtual 31, 3) := by decide +kernel
theorem dX0_begin_4 : decode cX0_begin 4 = .ok (.iconst 0, 1) := by decide +kernel
theorem dX0_begin_5 : decode cX0_begin 5 = .ok (.istore_n 1, 1) := by decide +kernel
theorem dX0_begin_6 : decode cX0_begin 6 = .ok (.iload_n 1, 1) := by decide +kernel
theorem dX0_begin_7 : decode cX0_begin 7 = .ok (.getstatic 34, 3) := by decide +kernel
theorem dX0_begin_10 : decode cX0_begin 10 = .ok (.arraylength, 1) := by decide +kernel
theorem dX0_begin_11 : decode cX0_begin 11 = .ok (.if_icmp .ge 70, 3) := by decide +kernel
theorem dX0_begin_14 : decode cX0_begin 14 = .ok (.aload_n 0, 1) := by decide +kernel
theorem dX0_begin_15 : decode cX0_begin 15 = .ok (.getfield 9, 3) := by decide +kernel
theorem dX0_begin_18 : decode cX0_begin 18 = .ok (.iload_n 1, 1) := by decide +kernel
theorem dX0_begin_19 : decode cX0_begin 19 = .ok (.getstatic 34, 3) := by decide +kernel
theorem dX0_begin_22 : decode cX0_begin 22 = .ok (.iload_n 1, 1) := by decide +kernel
theorem dX0_begin_23 : decode cX0_begin 23 = .ok (.iaload, 1) := by decide +kernel
theorem dX0_begin_24 : decode cX0_begin 24 = .ok (.iconst 0, 1) := by decide +kernel
theorem dX0_begin_25 : decode cX0_begin 25 = .ok (.invokestatic 37, 3) := by decide +kernel
theorem dX0_begin_28 : decode cX0_begin 28 = .ok (.iastore, 1) := by decide +kernel
theorem dX0_begin_29 : decode cX0_begin 29 = .ok (.aload_n 0, 1) := by decide +kernel
theorem dX0_begin_30 : decode cX0_begin 30 = .ok (.getfield 9, 3) := by decide +kernel
theorem dX0_begin_33 : decode cX0_begin 33 = .ok (.bipush 8, 2) := by decide +kernel
theorem dX0_begin_35 : decode cX0_begin 35 = .ok (.iload_n 1, 1) := by decide +kernel
theorem dX0_begin_36 : decode cX0_begin 36 = .ok (.iadd, 1) := by decide +kernel
theorem dX0_begin_37 : decode cX0_begin 37 = .ok (.iconst 1, 1) := by decide +kernel
theorem dX0_begin_38 : decode cX0_begin 38 = .ok (.iconst 0, 1) := by decide +kernel
theorem dX0_begin_39 : decode cX0_begin 39 = .ok (.invokestatic 37, 3) := by decide +kernel
theorem dX0_begin_42 : decode cX0_begin 42 = .ok (.iastore, 1) := by decide +kernel
theorem dX0_begin_43 : decode cX0_begin 43 = .ok (.aload_n 0, 1) := by decide +kernel
theorem dX0_begin_44 : decode cX0_begin 44 = .ok (.getfield 9, 3) := by decide +kernel
theorem dX0_begin_47 : decode cX0_begin 47 = .ok (.bipush 48, 2) := by decide +kernel
theorem dX0_begin_49 : decode cX0_begin 49 = .ok (.iload_n 1, 1) := by decide +kernel
theorem dX0_begin_50 : decode cX0_begin 50 = .ok (.iadd, 1) := by decide +kernel
theorem dX0_begin_51 : decode cX0_begin 51 = .ok (.iconst 1, 1) := by decide +kernel
theorem dX0_begin_52 : decode cX0_begin 52 = .ok (.iconst 1, 1) := by decide +kernel
theorem dX0_begin_53 : decode cX0_begin 53 = .ok (.invokestatic 37, 3) := by decide +kernel
theorem dX0_begin_56 : decode cX0_begin 56 = .ok (.iastore, 1) := by decide +kernel
theorem dX0_begin_57 : decode cX0_begin 57 = .ok (.aload_n 0, 1) := by decide +kernel
theorem dX0_begin_58 : decode cX0_begin 58 = .ok (.getfield 9, 3) := by decide +kernel
theorem dX0_begin_61 : decode cX0_begin 61 = .ok (.bipush 56, 2) := by decide +kernel
theorem dX0_begin_63 : decode cX0_begin 63 = .ok (.iload_n 1, 1) := by decide +kernel
theorem dX0_begin_64 : decode cX0_begin 64 = .ok (.iadd, 1) := by decide +kernel
theorem dX0_begin_65 : decode cX0_begin 65 = .ok (.getstatic 34, 3) := by decide +kernel
theorem dX0_begin_68 : decode cX0_begin 68 = .ok (.iload_n 1, 1) := by decide +kernel
theorem dX0_begin_69 : decode cX0_begin 69 = .ok (.iaload, 1) := by decide +kernel
theorem dX0_begin_70 : decode cX0_begin 70 = .ok (.iconst 1, 1) := by decide +kernel
theorem dX0_begin_71 : decode cX0_begin 71 = .ok (.invokestatic 37, 3) := by decide +kernel
theorem dX0_begin_74 : decode cX0_begin 74 = .ok (.iastore, 1) := by decide +kernel
theorem dX0_begin_75 : decode cX0_begin 75 = .ok (.iinc 1 1, 3) := by decide +kernel
theorem dX0_begin_78 : decode cX0_begin 78 = .ok (.goto (-72), 3) := by decide +kernel
theorem dX0_begin_81 : decode cX0_begin 81 = .ok (.aload_n 0, 1) := by decide +kernel
theorem dX0_begin_82 : decode cX0_begin 82 = .ok (.bipush 15, 2) := by decide +kernel
theorem dX0_begin_84 : decode cX0_begin 84 = .ok (.putfield 41, 3) := by decide +kernel
theorem dX0_begin_87 : decode cX0_begin 87 = .ok (.return_, 1) := by decide +kernel
set_option maxRecDepth 20000 in
theorem ggX0_put_X0_isSquare : GoodIn wsX0_put wsX0_isSquare := goodIn_r _ [11] (by decide +kernel) (by decide +kernel)
set_option maxRecDepth 20000 in
theorem gX0_put_X0_isSquare : GoodIn wsX0_put (va_wsS RX0 45 yX0_isSquare wsX0_isSquare) := goodIn_app (goodIn_of _ (by decide +kernel)) ggX0_put_X0_isSquare
set_option maxRecDepth 20000 in
theorem ggX0_put_X0_piecesOnBoard : GoodIn wsX0_put wsX0_piecesOnBoard := goodIn_r _ [15, 16, 17, 18, 10, 19, 7, 20, 21, 22, 23, 24, 25, 26, 32, 33, 34, 35, 36, 37, 38, 39, 40, 41, 42, 43, 44] (by decide +kernel) (by decide +kernel)
set_option maxRecDepth 20000 in
theorem gX0_put_X0_piecesOnBoard : GoodIn wsX0_put (wsV RX0 61 RX0 yX0_piecesOnBoard wsX0_piecesOnBoard) := goodIn_app (goodIn_of _ (by decide +kernel)) ggX0_put_X0_piecesOnBoard
set_option maxRecDepth 20000 in
theorem ggX0_put_X0_forgetMoves : GoodIn wsX0_put wsX0_forgetMoves := goodIn_r _ [30, 31, 32, 33, 34, 35, 36, 37, 38, 39, 40, 41, 42, 43, 44] (by decide +kernel) (by decide +kernel)
set_option maxRecDepth 20000 in
theorem gX0_put_X0_forgetMoves : GoodIn wsX0_put (wsV RX0 70 RX0 yX0_forgetMoves wsX0_forgetMoves) := goodIn_app (goodIn_of _ (by decide +kernel)) ggX0_put_X0_forgetMoves
theorem dX0_put_0 : decode cX0_put 0 = .ok (.iload_n 1, 1) := by decide +kernel
theorem dX0_put_1 : decode cX0_put 1 = .ok (.invokestatic 45, 3) := by decide +kernel
theorem dX0_put_4 : decode cX0_put 4 = .ok (.ifCond .ne 13, 3) := by decide +kernel
theorem dX0_put_7 : decode cX0_put 7 = .ok (.new 49, 3) := by decide +kernel
theorem dX0_put_10 : decode cX0_put 10 = .ok (.dup, 1) := by decide +kernel
theorem dX0_put_11 : decode cX0_put 11 = .ok (.ldc 51, 2) := by decide +kernel
theorem dX0_put_13 : decode cX0_put 13 = .ok (.invokespecial 53, 3) := by decide +kernel
theorem dX0_put_16 : decode cX0_put 16 = .ok (.athrow, 1) := by decide +kernel
theorem dX0_put_17 : decode cX0_put 17 = .ok (.iload_n 2, 1) := by decide +kernel
theorem dX0_put_18 : decode cX0_put 18 = .ok (.ifCond .lt 9, 3) := by decide +kernel
theorem dX0_put_21 : decode cX0_put 21 = .ok (.iload_n 2, 1) := by decide +kernel
theorem dX0_put_22 : decode cX0_put 22 = .ok (.bipush 12, 2) := by decide +kernel
theorem dX0_put_24 : decode cX0_put 24 = .ok (.if_icmp .le 13, 3) := by decide +kernel
theorem dX0_put_27 : decode cX0_put 27 = .ok (.new 56, 3) := by decide +kernel
theorem dX0_put_30 : decode cX0_put 30 = .ok (.dup, 1) := by decide +kernel
theorem dX0_put_31 : decode cX0_put 31 = .ok (.ldc 58, 2) := by decide +kernel
theorem dX0_put_33 : decode cX0_put 33 = .ok (.invokespecial 60, 3) := by decide +kernel
theorem dX0_put_36 : decode cX0_put 36 = .ok (.athrow, 1) := by decide +kernel
theorem dX0_put_37 : decode cX0_put 37 = .ok (.iload_n 2, 1) := by decide +kernel
theorem dX0_put_38 : decode cX0_put 38 = .ok (.ifCond .eq 31, 3) := by decide +kernel
theorem dX0_put_41 : decode cX0_put 41 = .ok (.aload_n 0, 1) := by decide +kernel
theorem dX0_put_42 : decode cX0_put 42 = .ok (.getfield 9, 3) := by decide +kernel
theorem dX0_put_45 : decode cX0_put 45 = .ok (.iload_n 1, 1) := by decide +kernel
theorem dX0_put_46 : decode cX0_put 46 = .ok (.iaload, 1) := by decide +kernel
theorem dX0_put_47 : decode cX0_put 47 = .ok (.ifCond .ne 22, 3) := by decide +kernel
theorem dX0_put_50 : decode cX0_put 50 = .ok (.aload_n 0, 1) := by decide +kernel
theorem dX0_put_51 : decode cX0_put 51 = .ok (.invokevirtual 61, 3) := by decide +kernel
theorem dX0_put_54 : decode cX0_put 54 = .ok (.bipush 32, 2) := by decide +kernel
theorem dX0_put_56 : decode cX0_put 56 = .ok (.if_icmp .lt 13, 3) := by decide +kernel
theorem dX0_put_59 : decode cX0_put 59 = .ok (.new 65, 3) := by decide +kernel
theorem dX0_put_62 : decode cX0_put 62 = .ok (.dup, 1) := by decide +kernel
theorem dX0_put_63 : decode cX0_put 63 = .ok (.ldc 67, 2) := by decide +kernel
theorem dX0_put_65 : decode cX0_put 65 = .ok (.invokespecial 69, 3) := by decide +kernel
theorem dX0_put_68 : decode cX0_put 68 = .ok (.athrow, 1) := by decide +kernel
theorem dX0_put_69 : decode cX0_put 69 = .ok (.aload_n 0, 1) := by decide +kernel
theorem dX0_put_70 : decode cX0_put 70 = .ok (.getfield 9, 3) := by decide +kernel
theorem dX0_put_73 : decode cX0_put 73 = .ok (.iload_n 1, 1) := by decide +kernel
theorem dX0_put_74 : decode cX0_put 74 = .ok (.iload_n 2, 1) := by decide +kernel
theorem dX0_put_75 : decode cX0_put 75 = .ok (.iastore, 1) := by decide +kernel
theorem dX0_put_76 : decode cX0_put 76 = .ok (.aload_n 0, 1) := by decide +kernel
theorem dX0_put_77 : decode cX0_put 77 = .ok (.invokevirtual 70, 3) := by decide +kernel
theorem dX0_put_80 : decode cX0_put 80 = .ok (.return_, 1) := by decide +kernel
set_option maxRecDepth 20000 in
theorem ggX0_state_X0_isSide : GoodIn wsX0_state wsX0_isSide := goodIn_r _ [9] (by decide +kernel) (by decide +kernel)
set_option maxRecDepth 20000 in
theorem gX0_state_X0_isSide : GoodIn wsX0_state (va_wsS RX0 73 yX0_isSide wsX0_isSide) := goodIn_app (goodIn_of _ (by decide +kernel)) ggX0_state_X0_isSide
set_option maxRecDepth 20000 in
theorem ggX0_state_X0_isSquare : GoodIn wsX0_state wsX0_isSquare := goodIn_r _ [12] (by decide +kernel) (by decide +kernel)
set_option maxRecDepth 20000 in
theorem gX0_state_X0_isSquare : GoodIn wsX0_state (va_wsS RX0 45 yX0_isSquare wsX0_isSquare) := goodIn_app (goodIn_of _ (by decide +kernel)) ggX0_state_X0_isSquare
set_option maxRecDepth 20000 in
theorem ggX0_state_X0_forgetMoves : GoodIn wsX0_state wsX0_forgetMoves := goodIn_r _ [16, 17, 18, 19, 20, 21, 22, 23, 24, 25, 26, 27, 28, 29, 30] (by decide +kernel) (by decide +kernel)
set_option maxRecDepth 20000 in
theorem gX0_state_X0_forgetMoves : GoodIn wsX0_state (wsV RX0 70 RX0 yX0_forgetMoves wsX0_forgetMoves) := goodIn_app (goodIn_of _ (by decide +kernel)) ggX0_state_X0_forgetMoves
theorem dX0_state_0 : decode cX0_state 0 = .ok (.iload_n 1, 1) := by decide +kernel
theorem dX0_state_1 : decode cX0_state 1 = .ok (.invokestatic 73, 3) := by decide +kernel
theorem dX0_state_4 : decode cX0_state 4 = .ok (.ifCond .ne 13, 3) := by decide +kernel
theorem dX0_state_7 : decode cX0_state 7 = .ok (.new 56, 3) := by decide +kernel
theorem dX0_state_10 : decode cX0_state 10 = .ok (.dup, 1) := by decide +kernel
theorem dX0_state_11 : decode cX0_state 11 = .ok (.ldc 76, 2) := by decide +kernel
theorem dX0_state_13 : decode cX0_state 13 = .ok (.invokespecial 60, 3) := by decide +kernel
theorem dX0_state_16 : decode cX0_state 16 = .ok (.athrow, 1) := by decide +kernel
theorem dX0_state_17 : decode cX0_state 17 = .ok (.iload_n 2, 1) := by decide +kernel
theorem dX0_state_18 : decode cX0_state 18 = .ok (.ifCond .lt 9, 3) := by decide +kernel
theorem dX0_state_21 : decode cX0_state 21 = .ok (.iload_n 2, 1) := by decide +kernel
theorem dX0_state_22 : decode cX0_state 22 = .ok (.bipush 15, 2) := by decide +kernel
theorem dX0_state_24 : decode cX0_state 24 = .ok (.if_icmp .le 13, 3) := by decide +kernel
theorem dX0_state_27 : decode cX0_state 27 = .ok (.new 56, 3) := by decide +kernel
theorem dX0_state_30 : decode cX0_state 30 = .ok (.dup, 1) := by decide +kernel
theorem dX0_state_31 : decode cX0_state 31 = .ok (.ldc 78, 2) := by decide +kernel
theorem dX0_state_33 : decode cX0_state 33 = .ok (.invokespecial 60, 3) := by decide +kernel
theorem dX0_state_36 : decode cX0_state 36 = .ok (.athrow, 1) := by decide +kernel
theorem dX0_state_37 : decode cX0_state 37 = .ok (.iload_n 3, 1) := by decide +kernel
theorem dX0_state_38 : decode cX0_state 38 = .ok (.iconst (-1), 1) := by decide +kernel
theorem dX0_state_39 : decode cX0_state 39 = .ok (.if_icmp .eq 20, 3) := by decide +kernel
theorem dX0_state_42 : decode cX0_state 42 = .ok (.iload_n 3, 1) := by decide +kernel
theorem dX0_state_43 : decode cX0_state 43 = .ok (.invokestatic 45, 3) := by decide +kernel
theorem dX0_state_46 : decode cX0_state 46 = .ok (.ifCond .ne 13, 3) := by decide +kernel
theorem dX0_state_49 : decode cX0_state 49 = .ok (.new 56, 3) := by decide +kernel
theorem dX0_state_52 : decode cX0_state 52 = .ok (.dup, 1) := by decide +kernel
theorem dX0_state_53 : decode cX0_state 53 = .ok (.ldc 80, 2) := by decide +kernel
theorem dX0_state_55 : decode cX0_state 55 = .ok (.invokespecial 60, 3) := by decide +kernel
theorem dX0_state_58 : decode cX0_state 58 = .ok (.athrow, 1) := by decide +kernel
theorem dX0_state_59 : decode cX0_state 59 = .ok (.aload_n 0, 1) := by decide +kernel
theorem dX0_state_60 : decode cX0_state 60 = .ok (.iload_n 1, 1) := by decide +kernel
theorem dX0_state_61 : decode cX0_state 61 = .ok (.putfield 82, 3) := by decide +kernel
theorem dX0_state_64 : decode cX0_state 64 = .ok (.aload_n 0, 1) := by decide +kernel
theorem dX0_state_65 : decode cX0_state 65 = .ok (.iload_n 2, 1) := by decide +kernel
theorem dX0_state_66 : decode cX0_state 66 = .ok (.putfield 41, 3) := by decide +kernel
theorem dX0_state_69 : decode cX0_state 69 = .ok (.aload_n 0, 1) := by decide +kernel
theorem dX0_state_70 : decode cX0_state 70 = .ok (.iload_n 3, 1) := by decide +kernel
theorem dX0_state_71 : decode cX0_state 71 = .ok (.putfield 85, 3) := by decide +kernel
theorem dX0_state_74 : decode cX0_state 74 = .ok (.aload_n 0, 1) := by decide +kernel
theorem dX0_state_75 : decode cX0_state 75 = .ok (.invokevirtual 70, 3) := by decide +kernel
theorem dX0_state_78 : decode cX0_state 78 = .ok (.return_, 1) := by decide +kernel
set_option maxRecDepth 20000 in
theorem ggX0_clocks_X0_forgetMoves : GoodIn wsX0_clocks wsX0_forgetMoves := goodIn_r _ [9, 10, 11, 12, 13, 14, 15, 16, 17, 18, 19, 20, 21, 22, 23] (by decide +kernel) (by decide +kernel)
set_option maxRecDepth 20000 in
theorem gX0_clocks_X0_forgetMoves : GoodIn wsX0_clocks (wsV RX0 70 RX0 yX0_forgetMoves wsX0_forgetMoves) := goodIn_app (goodIn_of _ (by decide +kernel)) ggX0_clocks_X0_forgetMoves
theorem dX0_clocks_0 : decode cX0_clocks 0 = .ok (.iload_n 1, 1) := by decide +kernel
theorem dX0_clocks_1 : decode cX0_clocks 1 = .ok (.ifCond .lt 10, 3) := by decide +kernel
theorem dX0_clocks_4 : decode cX0_clocks 4 = .ok (.iload_n 1, 1) := by decide +kernel
theorem dX0_clocks_5 : decode cX0_clocks 5 = .ok (.sipush 9999, 3) := by decide +kernel
theorem dX0_clocks_8 : decode cX0_clocks 8 = .ok (.if_icmp .le 13, 3) := by decide +kernel
theorem dX0_clocks_11 : decode cX0_clocks 11 = .ok (.new 56, 3) := by decide +kernel
theorem dX0_clocks_14 : decode cX0_clocks 14 = .ok (.dup, 1) := by decide +kernel
theorem dX0_clocks_15 : decode cX0_clocks 15 = .ok (.ldc 88, 2) := by decide +kernel
theorem dX0_clocks_17 : decode cX0_clocks 17 = .ok (.invokespecial 60, 3) := by decide +kernel
theorem dX0_clocks_20 : decode cX0_clocks 20 = .ok (.athrow, 1) := by decide +kernel
theorem dX0_clocks_21 : decode cX0_clocks 21 = .ok (.iload_n 2, 1) := by decide +kernel
theorem dX0_clocks_22 : decode cX0_clocks 22 = .ok (.iconst 1, 1) := by decide +kernel
theorem dX0_clocks_23 : decode cX0_clocks 23 = .ok (.if_icmp .lt 10, 3) := by decide +kernel
theorem dX0_clocks_26 : decode cX0_clocks 26 = .ok (.iload_n 2, 1) := by decide +kernel
theorem dX0_clocks_27 : decode cX0_clocks 27 = .ok (.sipush 9999, 3) := by decide +kernel
theorem dX0_clocks_30 : decode cX0_clocks 30 = .ok (.if_icmp .le 13, 3) := by decide +kernel
theorem dX0_clocks_33 : decode cX0_clocks 33 = .ok (.new 56, 3) := by decide +kernel
theorem dX0_clocks_36 : decode cX0_clocks 36 = .ok (.dup, 1) := by decide +kernel
theorem dX0_clocks_37 : decode cX0_clocks 37 = .ok (.ldc 90, 2) := by decide +kernel
theorem dX0_clocks_39 : decode cX0_clocks 39 = .ok (.invokespecial 60, 3) := by decide +kernel
theorem dX0_clocks_42 : decode cX0_clocks 42 = .ok (.athrow, 1) := by decide +kernel
theorem dX0_clocks_43 : decode cX0_clocks 43 = .ok (.aload_n 0, 1) := by decide +kernel
theorem dX0_clocks_44 : decode cX0_clocks 44 = .ok (.iload_n 1, 1) := by decide +kernel
theorem dX0_clocks_45 : decode cX0_clocks 45 = .ok (.putfield 92, 3) := by decide +kernel
theorem dX0_clocks_48 : decode cX0_clocks 48 = .ok (.aload_n 0, 1) := by decide +kernel
theorem dX0_clocks_49 : decode cX0_clocks 49 = .ok (.iload_n 2, 1) := by decide +kernel
theorem dX0_clocks_50 : decode cX0_clocks 50 = .ok (.putfield 95, 3) := by decide +kernel
theorem dX0_clocks_53 : decode cX0_clocks 53 = .ok (.aload_n 0, 1) := by decide +kernel
theorem dX0_clocks_54 : decode cX0_clocks 54 = .ok (.invokevirtual 70, 3) := by decide +kernel
theorem dX0_clocks_57 : decode cX0_clocks 57 = .ok (.return_, 1) := by decide +kernel
set_option maxRecDepth 20000 in
theorem ggX0_fits_X0_fromOf : GoodIn wsX0_fits wsX0_fromOf := goodIn_r _ [6] (by decide +kernel) (by decide +kernel)
set_option maxRecDepth 20000 in
theorem gX0_fits_X0_fromOf : GoodIn wsX0_fits (va_wsS RX0 98 yX0_fromOf wsX0_fromOf) := goodIn_app (goodIn_of _ (by decide +kernel)) ggX0_fits_X0_fromOf
set_option maxRecDepth 20000 in
theorem ggX0_fits_X0_toOf : GoodIn wsX0_fits wsX0_toOf := goodIn_r _ [9] (by decide +kernel) (by decide +kernel)
set_option maxRecDepth 20000 in
theorem gX0_fits_X0_toOf : GoodIn wsX0_fits (va_wsS RX0 102 yX0_toOf wsX0_toOf) := goodIn_app (goodIn_of _ (by decide +kernel)) ggX0_fits_X0_toOf
set_option maxRecDepth 20000 in
theorem ggX0_fits_X0_sideOf : GoodIn wsX0_fits wsX0_sideOf := goodIn_r _ [12] (by decide +kernel) (by decide +kernel)
set_option maxRecDepth 20000 in
theorem gX0_fits_X0_sideOf : GoodIn wsX0_fits (va_wsS RX0 105 yX0_sideOf wsX0_sideOf) := goodIn_app (goodIn_of _ (by decide +kernel)) ggX0_fits_X0_sideOf
set_option maxRecDepth 20000 in
theorem ggX0_fits_X0_typeOf : GoodIn wsX0_fits wsX0_typeOf := goodIn_r _ [15] (by decide +kernel) (by decide +kernel)
set_option maxRecDepth 20000 in
theorem gX0_fits_X0_typeOf : GoodIn wsX0_fits (va_wsS RX0 108 yX0_typeOf wsX0_typeOf) := goodIn_app (goodIn_of _ (by decide +kernel)) ggX0_fits_X0_typeOf
set_option maxRecDepth 20000 in
theorem ggX0_fits_X0_kindOf : GoodIn wsX0_fits wsX0_kindOf := goodIn_r _ [18] (by decide +kernel) (by decide +kernel)
set_option maxRecDepth 20000 in
theorem gX0_fits_X0_kindOf : GoodIn wsX0_fits (va_wsS RX0 111 yX0_kindOf wsX0_kindOf) := goodIn_app (goodIn_of _ (by decide +kernel)) ggX0_fits_X0_kindOf
set_option maxRecDepth 20000 in
theorem ggX0_fits_X0_becomesWhatItMay : GoodIn wsX0_fits wsX0_becomesWhatItMay := goodIn_r _ [21, 13, 14, 5, 15, 22, 23, 24, 10, 11, 12, 25, 26, 27] (by decide +kernel) (by decide +kernel)
set_option maxRecDepth 20000 in
theorem gX0_fits_X0_becomesWhatItMay : GoodIn wsX0_fits (va_wsS RX0 114 yX0_becomesWhatItMay wsX0_becomesWhatItMay) := goodIn_app (goodIn_of _ (by decide +kernel)) ggX0_fits_X0_becomesWhatItMay
set_option maxRecDepth 20000 in
theorem ggX0_fits_X0_goes : GoodIn wsX0_fits wsX0_goes := goodIn_r _ [31, 1, 13, 14, 5, 15, 32, 33, 34, 35, 2, 36, 37, 38, 39, 40, 41, 42, 43, 44, 45, 22, 23, 24, 46, 47, 48, 49, 50, 51, 52, 53, 54, 55, 56, 57, 58, 59, 60, 61, 62, 10, 11, 12, 63, 64, 65, 66, 67, 68, 69, 70, 71, 72, 73, 74, 75, 76, 77, 78, 79, 80, 81, 82, 83, 84, 85, 86, 87, 88, 89, 90, 91, 92, 93, 94, 95, 96, 97, 98, 99, 100, 101, 102, 103, 104, 105, 106, 107, 108, 109, 110, 111, 112, 113, 114, 115, 116, 117, 118, 119, 120, 121, 122, 123, 124, 125, 126] (by decide +kernel) (by decide +kernel)
set_option maxRecDepth 20000 in
theorem gX0_fits_X0_goes : GoodIn wsX0_fits (wsV RX0 118 RX0 yX0_goes wsX0_goes) := goodIn_app (goodIn_of _ (by decide +kernel)) ggX0_fits_X0_goes
theorem dX0_fits_0 : decode cX0_fits 0 = .ok (.iload_n 1, 1) := by decide +kernel
theorem dX0_fits_1 : decode cX0_fits 1 = .ok (.ifCond .ge 5, 3) := by decide +kernel
theorem dX0_fits_4 : decode cX0_fits 4 = .ok (.iconst 0, 1) := by decide +kernel
theorem dX0_fits_5 : decode cX0_fits 5 = .ok (.ireturn, 1) := by decide +kernel
theorem dX0_fits_6 : decode cX0_fits 6 = .ok (.iload_n 1, 1) := by decide +kernel
theorem dX0_fits_7 : decode cX0_fits 7 = .ok (.invokestatic 98, 3) := by decide +kernel
theorem dX0_fits_10 : decode cX0_fits 10 = .ok (.istore_n 2, 1) := by decide +kernel
theorem dX0_fits_11 : decode cX0_fits 11 = .ok (.iload_n 1, 1) := by decide +kernel
theorem dX0_fits_12 : decode cX0_fits 12 = .ok (.invokestatic 102, 3) := by decide +kernel
theorem dX0_fits_15 : decode cX0_fits 15 = .ok (.istore_n 3, 1) := by decide +kernel
theorem dX0_fits_16 : decode cX0_fits 16 = .ok (.aload_n 0, 1) := by decide +kernel
theorem dX0_fits_17 : decode cX0_fits 17 = .ok (.getfield 9, 3) := by decide +kernel
theorem dX0_fits_20 : decode cX0_fits 20 = .ok (.iload_n 2, 1) := by decide +kernel
theorem dX0_fits_21 : decode cX0_fits 21 = .ok (.iaload, 1) := by decide +kernel
theorem dX0_fits_22 : decode cX0_fits 22 = .ok (.invokestatic 105, 3) := by decide +kernel
theorem dX0_fits_25 : decode cX0_fits 25 = .ok (.aload_n 0, 1) := by decide +kernel
theorem dX0_fits_26 : decode cX0_fits 26 = .ok (.getfield 82, 3) := by decide +kernel
theorem dX0_fits_29 : decode cX0_fits 29 = .ok (.if_icmp .ne 63, 3) := by decide +kernel
theorem dX0_fits_32 : decode cX0_fits 32 = .ok (.aload_n 0, 1) := by decide +kernel
theorem dX0_fits_33 : decode cX0_fits 33 = .ok (.getfield 9, 3) := by decide +kernel
theorem dX0_fits_36 : decode cX0_fits 36 = .ok (.iload_n 3, 1) := by decide +kernel
theorem dX0_fits_37 : decode cX0_fits 37 = .ok (.iaload, 1) := by decide +kernel
theorem dX0_fits_38 : decode cX0_fits 38 = .ok (.invokestatic 105, 3) := by decide +kernel
theorem dX0_fits_41 : decode cX0_fits 41 = .ok (.aload_n 0, 1) := by decide +kernel
theorem dX0_fits_42 : decode cX0_fits 42 = .ok (.getfield 82, 3) := by decide +kernel
theorem dX0_fits_45 : decode cX0_fits 45 = .ok (.if_icmp .eq 47, 3) := by decide +kernel
theorem dX0_fits_48 : decode cX0_fits 48 = .ok (.aload_n 0, 1) := by decide +kernel
theorem dX0_fits_49 : decode cX0_fits 49 = .ok (.getfield 9, 3) := by decide +kernel
theorem dX0_fits_52 : decode cX0_fits 52 = .ok (.iload_n 3, 1) := by decide +kernel
theorem dX0_fits_53 : decode cX0_fits 53 = .ok (.iaload, 1) := by decide +kernel
theorem dX0_fits_54 : decode cX0_fits 54 = .ok (.invokestatic 108, 3) := by decide +kernel
theorem dX0_fits_57 : decode cX0_fits 57 = .ok (.bipush 6, 2) := by decide +kernel
theorem dX0_fits_59 : decode cX0_fits 59 = .ok (.if_icmp .eq 33, 3) := by decide +kernel
theorem dX0_fits_62 : decode cX0_fits 62 = .ok (.aload_n 0, 1) := by decide +kernel
theorem dX0_fits_63 : decode cX0_fits 63 = .ok (.getfield 9, 3) := by decide +kernel
theorem dX0_fits_66 : decode cX0_fits 66 = .ok (.iload_n 2, 1) := by decide +kernel
theorem dX0_fits_67 : decode cX0_fits 67 = .ok (.iaload, 1) := by decide +kernel
theorem dX0_fits_68 : decode cX0_fits 68 = .ok (.iload_n 3, 1) := by decide +kernel
theorem dX0_fits_69 : decode cX0_fits 69 = .ok (.iload_n 1, 1) := by decide +kernel
theorem dX0_fits_70 : decode cX0_fits 70 = .ok (.invokestatic 111, 3) := by decide +kernel
theorem dX0_fits_73 : decode cX0_fits 73 = .ok (.invokestatic 114, 3) := by decide +kernel
theorem dX0_fits_76 : decode cX0_fits 76 = .ok (.ifCond .eq 16, 3) := by decide +kernel
theorem dX0_fits_79 : decode cX0_fits 79 = .ok (.aload_n 0, 1) := by decide +kernel
theorem dX0_fits_80 : decode cX0_fits 80 = .ok (.iload_n 2, 1) := by decide +kernel
theorem dX0_fits_81 : decode cX0_fits 81 = .ok (.iload_n 3, 1) := by decide +kernel
theorem dX0_fits_82 : decode cX0_fits 82 = .ok (.invokevirtual 118, 3) := by decide +kernel
theorem dX0_fits_85 : decode cX0_fits 85 = .ok (.ifCond .eq 7, 3) := by decide +kernel
theorem dX0_fits_88 : decode cX0_fits 88 = .ok (.iconst 1, 1) := by decide +kernel
theorem dX0_fits_89 : decode cX0_fits 89 = .ok (.goto 4, 3) := by decide +kernel
theorem dX0_fits_92 : decode cX0_fits 92 = .ok (.iconst 0, 1) := by decide +kernel
theorem dX0_fits_93 : decode cX0_fits 93 = .ok (.ireturn, 1) := by decide +kernel
set_option maxRecDepth 20000 in
theorem ggX0_make_X0_fits : GoodIn wsX0_make wsX0_fits := goodIn_r _ [16, 6, 10, 17, 18, 15, 19, 20, 21, 22, 23, 24, 25, 26, 27, 28, 29, 30, 31, 32, 33, 34, 35, 36, 37, 38, 39, 40, 41, 42, 43, 44, 45, 46, 47, 48, 49, 50, 51, 52, 53, 54, 55, 56, 57, 58, 59, 60, 61, 62, 63, 64, 65, 66, 67, 68, 69, 70, 71, 72, 73, 74, 75, 76, 77, 78, 79, 80, 81, 82, 8, 83, 84, 85, 86, 87, 88, 89, 90, 91, 92, 93, 94, 95, 96, 97, 98, 99, 100, 101, 102, 103, 104, 105, 106, 107, 108, 109, 110, 111, 112, 7, 113, 114, 115, 116, 117, 118, 119, 120, 121, 122, 123, 124, 157, 158, 159, 160, 161, 162, 163, 164, 165, 166, 167, 168, 169] (by decide +kernel) (by decide +kernel)
set_option maxRecDepth 20000 in
theorem gX0_make_X0_fits : GoodIn wsX0_make (wsV RX0 122 RX0 yX0_fits wsX0_fits) := goodIn_app (goodIn_of _ (by decide +kernel)) ggX0_make_X0_fits
set_option maxRecDepth 20000 in
theorem ggX0_make_X0_fromOf : GoodIn wsX0_make wsX0_fromOf := goodIn_r _ [19] (by decide +kernel) (by decide +kernel)
set_option maxRecDepth 20000 in
theorem gX0_make_X0_fromOf : GoodIn wsX0_make (va_wsS RX0 98 yX0_fromOf wsX0_fromOf) := goodIn_app (goodIn_of _ (by decide +kernel)) ggX0_make_X0_fromOf
set_option maxRecDepth 20000 in
theorem ggX0_make_X0_toOf : GoodIn wsX0_make wsX0_toOf := goodIn_r _ [22] (by decide +kernel) (by decide +kernel)
set_option maxRecDepth 20000 in
theorem gX0_make_X0_toOf : GoodIn wsX0_make (va_wsS RX0 102 yX0_toOf wsX0_toOf) := goodIn_app (goodIn_of _ (by decide +kernel)) ggX0_make_X0_toOf
set_option maxRecDepth 20000 in
theorem ggX0_make_X0_squareTaken : GoodIn wsX0_make wsX0_squareTaken := goodIn_r _ [128, 6, 10, 26, 27, 15, 28, 66, 67, 68, 69, 70, 71, 72, 35, 36, 37, 49, 50, 51, 73, 74, 75, 79, 80, 81, 82, 8, 52, 53, 54, 55, 56, 57, 58, 83, 84, 85, 86, 76, 77, 78, 87, 88, 89, 90, 91, 92, 93, 157, 158, 159, 160, 161, 162, 163, 164, 165, 166, 167, 168, 169] (by decide +kernel) (by decide +kernel)
set_option maxRecDepth 20000 in
theorem gX0_make_X0_squareTaken : GoodIn wsX0_make (wsV RX0 132 RX0 yX0_squareTaken wsX0_squareTaken) := goodIn_app (goodIn_of _ (by decide +kernel)) ggX0_make_X0_squareTaken
set_option maxRecDepth 20000 in
theorem ggX0_make_X0_remember : GoodIn wsX0_make wsX0_remember := goodIn_r _ [132, 133, 5, 134, 135, 136, 7, 137, 8, 138, 9, 157, 158, 159, 160, 161, 162, 163, 164, 165, 166, 167, 168, 169] (by decide +kernel) (by decide +kernel)
set_option maxRecDepth 20000 in
theorem gX0_make_X0_remember : GoodIn wsX0_make (wsV RX0 135 RX0 yX0_remember wsX0_remember) := goodIn_app (goodIn_of _ (by decide +kernel)) ggX0_make_X0_remember
set_option maxRecDepth 20000 in
theorem ggX0_make_X0_carryOver : GoodIn wsX0_make wsX0_carryOver := goodIn_r _ [142, 6, 10, 17, 18, 15, 19, 20, 21, 22, 29, 30, 31, 143, 144, 145, 26, 27, 28, 116, 117, 118, 69, 70, 71, 72, 35, 36, 37, 119, 120, 121, 146, 147, 148, 149, 56, 57, 58, 87, 88, 89, 157, 158, 159, 160, 161, 162, 163, 164, 165, 166, 167, 168, 169] (by decide +kernel) (by decide +kernel)
set_option maxRecDepth 20000 in
theorem gX0_make_X0_carryOver : GoodIn wsX0_make (wsV RX0 139 RX0 yX0_carryOver wsX0_carryOver) := goodIn_app (goodIn_of _ (by decide +kernel)) ggX0_make_X0_carryOver
set_option maxRecDepth 20000 in
theorem ggX0_make_X0_rightsOfKing : GoodIn wsX0_make wsX0_rightsOfKing := goodIn_r _ [152, 26, 27, 15, 28, 23, 24, 25] (by decide +kernel) (by decide +kernel)
set_option maxRecDepth 20000 in
theorem gX0_make_X0_rightsOfKing : GoodIn wsX0_make (va_wsS RX0 143 yX0_rightsOfKing wsX0_rightsOfKing) := goodIn_app (goodIn_of _ (by decide +kernel)) ggX0_make_X0_rightsOfKing
set_option maxRecDepth 20000 in
theorem ggX0_make_X0_rightOfCorner : GoodIn wsX0_make wsX0_rightOfCorner := goodIn_r _ [124] (by decide +kernel) (by decide +kernel)
set_option maxRecDepth 20000 in
theorem gX0_make_X0_rightOfCorner : GoodIn wsX0_make (va_wsS RX0 146 yX0_rightOfCorner wsX0_rightOfCorner) := goodIn_app (goodIn_of _ (by decide +kernel)) ggX0_make_X0_rightOfCorner
set_option maxRecDepth 20000 in
theorem ggX0_make_X0_passingBehind : GoodIn wsX0_make wsX0_passingBehind := goodIn_r _ [156, 6, 69, 70, 71, 72, 10, 26, 27, 15, 28, 76, 77, 78, 87, 88, 89, 66, 67, 68, 35, 36, 37, 49, 50, 51, 73, 74, 75, 157, 158, 159, 160, 161, 162, 163, 164, 165, 166, 167, 168, 169] (by decide +kernel) (by decide +kernel)
set_option maxRecDepth 20000 in
theorem gX0_make_X0_passingBehind : GoodIn wsX0_make (wsV RX0 149 RX0 yX0_passingBehind wsX0_passingBehind) := goodIn_app (goodIn_of _ (by decide +kernel)) ggX0_make_X0_passingBehind
set_option maxRecDepth 20000 in
theorem ggX0_make_X0_typeOf : GoodIn wsX0_make wsX0_typeOf := goodIn_r _ [28] (by decide +kernel) (by decide +kernel)
set_option maxRecDepth 20000 in
theorem gX0_make_X0_typeOf : GoodIn wsX0_make (va_wsS RX0 108 yX0_typeOf wsX0_typeOf) := goodIn_app (goodIn_of _ (by decide +kernel)) ggX0_make_X0_typeOf
set_option maxRecDepth 20000 in
theorem ggX0_make_X0_otherThan : GoodIn wsX0_make wsX0_otherThan := goodIn_r _ [78] (by decide +kernel) (by decide +kernel)
set_option maxRecDepth 20000 in
theorem gX0_make_X0_otherThan : GoodIn wsX0_make (va_wsS RX0 152 yX0_otherThan wsX0_otherThan) := goodIn_app (goodIn_of _ (by decide +kernel)) ggX0_make_X0_otherThan
theorem dX0_make_0 : decode cX0_make 0 = .ok (.aload_n 0, 1) := by decide +kernel
theorem dX0_make_1 : decode cX0_make 1 = .ok (.iload_n 1, 1) := by decide +kernel
theorem dX0_make_2 : decode cX0_make 2 = .ok (.invokevirtual 122, 3) := by decide +kernel
theorem dX0_make_5 : decode cX0_make 5 = .ok (.ifCond .ne 13, 3) := by decide +kernel
theorem dX0_make_8 : decode cX0_make 8 = .ok (.new 56, 3) := by decide +kernel
theorem dX0_make_11 : decode cX0_make 11 = .ok (.dup, 1) := by decide +kernel
theorem dX0_make_12 : decode cX0_make 12 = .ok (.ldc 125, 2) := by decide +kernel
theorem dX0_make_14 : decode cX0_make 14 = .ok (.invokespecial 60, 3) := by decide +kernel
theorem dX0_make_17 : decode cX0_make 17 = .ok (.athrow, 1) := by decide +kernel
theorem dX0_make_18 : decode cX0_make 18 = .ok (.aload_n 0, 1) := by decide +kernel
theorem dX0_make_19 : decode cX0_make 19 = .ok (.getfield 127, 3) := by decide +kernel
theorem dX0_make_22 : decode cX0_make 22 = .ok (.sipush 600, 3) := by decide +kernel
theorem dX0_make_25 : decode cX0_make 25 = .ok (.if_icmp .lt 13, 3) := by decide +kernel
theorem dX0_make_28 : decode cX0_make 28 = .ok (.new 65, 3) := by decide +kernel
theorem dX0_make_31 : decode cX0_make 31 = .ok (.dup, 1) := by decide +kernel
theorem dX0_make_32 : decode cX0_make 32 = .ok (.ldc 130, 2) := by decide +kernel
theorem dX0_make_34 : decode cX0_make 34 = .ok (.invokespecial 69, 3) := by decide +kernel
theorem dX0_make_37 : decode cX0_make 37 = .ok (.athrow, 1) := by decide +kernel
theorem dX0_make_38 : decode cX0_make 38 = .ok (.iload_n 1, 1) := by decide +kernel
theorem dX0_make_39 : decode cX0_make 39 = .ok (.invokestatic 98, 3) := by decide +kernel
theorem dX0_make_42 : decode cX0_make 42 = .ok (.istore_n 2, 1) := by decide +kernel
theorem dX0_make_43 : decode cX0_make 43 = .ok (.iload_n 1, 1) := by decide +kernel
theorem dX0_make_44 : decode cX0_make 44 = .ok (.invokestatic 102, 3) := by decide +kernel
theorem dX0_make_47 : decode cX0_make 47 = .ok (.istore_n 3, 1) := by decide +kernel
theorem dX0_make_48 : decode cX0_make 48 = .ok (.aload_n 0, 1) := by decide +kernel
theorem dX0_make_49 : decode cX0_make 49 = .ok (.getfield 9, 3) := by decide +kernel
theorem dX0_make_52 : decode cX0_make 52 = .ok (.iload_n 2, 1) := by decide +kernel
theorem dX0_make_53 : decode cX0_make 53 = .ok (.iaload, 1) := by decide +kernel
theorem dX0_make_54 : decode cX0_make 54 = .ok (.istore 4, 2) := by decide +kernel
theorem dX0_make_56 : decode cX0_make 56 = .ok (.aload_n 0, 1) := by decide +kernel
theorem dX0_make_57 : decode cX0_make 57 = .ok (.iload_n 2, 1) := by decide +kernel
theorem dX0_make_58 : decode cX0_make 58 = .ok (.iload_n 3, 1) := by decide +kernel
theorem dX0_make_59 : decode cX0_make 59 = .ok (.invokevirtual 132, 3) := by decide +kernel
theorem dX0_make_62 : decode cX0_make 62 = .ok (.istore 5, 2) := by decide +kernel
theorem dX0_make_64 : decode cX0_make 64 = .ok (.aload_n 0, 1) := by decide +kernel
theorem dX0_make_65 : decode cX0_make 65 = .ok (.getfield 9, 3) := by decide +kernel
theorem dX0_make_68 : decode cX0_make 68 = .ok (.iload 5, 2) := by decide +kernel
theorem dX0_make_70 : decode cX0_make 70 = .ok (.iaload, 1) := by decide +kernel
theorem dX0_make_71 : decode cX0_make 71 = .ok (.istore 6, 2) := by decide +kernel
theorem dX0_make_73 : decode cX0_make 73 = .ok (.aload_n 0, 1) := by decide +kernel
theorem dX0_make_74 : decode cX0_make 74 = .ok (.iload_n 1, 1) := by decide +kernel
theorem dX0_make_75 : decode cX0_make 75 = .ok (.iload 6, 2) := by decide +kernel
theorem dX0_make_77 : decode cX0_make 77 = .ok (.iload 5, 2) := by decide +kernel
theorem dX0_make_79 : decode cX0_make 79 = .ok (.invokevirtual 135, 3) := by decide +kernel
theorem dX0_make_82 : decode cX0_make 82 = .ok (.aload_n 0, 1) := by decide +kernel
theorem dX0_make_83 : decode cX0_make 83 = .ok (.iload_n 1, 1) := by decide +kernel
theorem dX0_make_84 : decode cX0_make 84 = .ok (.iload 5, 2) := by decide +kernel
theorem dX0_make_86 : decode cX0_make 86 = .ok (.invokevirtual 139, 3) := by decide +kernel
theorem dX0_make_89 : decode cX0_make 89 = .ok (.aload_n 0, 1) := by decide +kernel
theorem dX0_make_90 : decode cX0_make 90 = .ok (.dup, 1) := by decide +kernel
theorem dX0_make_91 : decode cX0_make 91 = .ok (.getfield 41, 3) := by decide +kernel
theorem dX0_make_94 : decode cX0_make 94 = .ok (.iload 4, 2) := by decide +kernel
theorem dX0_make_96 : decode cX0_make 96 = .ok (.invokestatic 143, 3) := by decide +kernel
theorem dX0_make_99 : decode cX0_make 99 = .ok (.iload_n 2, 1) := by decide +kernel
theorem dX0_make_100 : decode cX0_make 100 = .ok (.invokestatic 146, 3) := by decide +kernel
theorem dX0_make_103 : decode cX0_make 103 = .ok (.ior, 1) := by decide +kernel
theorem dX0_make_104 : decode cX0_make 104 = .ok (.iload_n 3, 1) := by decide +kernel
theorem dX0_make_105 : decode cX0_make 105 = .ok (.invokestatic 146, 3) := by decide +kernel
theorem dX0_make_108 : decode cX0_make 108 = .ok (.ior, 1) := by decide +kernel
theorem dX0_make_109 : decode cX0_make 109 = .ok (.iconst (-1), 1) := by decide +kernel
theorem dX0_make_110 : decode cX0_make 110 = .ok (.ixor, 1) := by decide +kernel
theorem dX0_make_111 : decode cX0_make 111 = .ok (.iand, 1) := by decide +kernel
theorem dX0_make_112 : decode cX0_make 112 = .ok (.putfield 41, 3) := by decide +kernel
theorem dX0_make_115 : decode cX0_make 115 = .ok (.aload_n 0, 1) := by decide +kernel
theorem dX0_make_116 : decode cX0_make 116 = .ok (.aload_n 0, 1) := by decide +kernel
theorem dX0_make_117 : decode cX0_make 117 = .ok (.iload_n 2, 1) := by decide +kernel
theorem dX0_make_118 : decode cX0_make 118 = .ok (.iload_n 3, 1) := by decide +kernel
theorem dX0_make_119 : decode cX0_make 119 = .ok (.invokevirtual 149, 3) := by decide +kernel
theorem dX0_make_122 : decode cX0_make 122 = .ok (.putfield 85, 3) := by decide +kernel
theorem dX0_make_125 : decode cX0_make 125 = .ok (.aload_n 0, 1) := by decide +kernel
theorem dX0_make_126 : decode cX0_make 126 = .ok (.iload 4, 2) := by decide +kernel
theorem dX0_make_128 : decode cX0_make 128 = .ok (.invokestatic 108, 3) := by decide +kernel
theorem dX0_make_131 : decode cX0_make 131 = .ok (.iconst 1, 1) := by decide +kernel
theorem dX0_make_132 : decode cX0_make 132 = .ok (.if_icmp .eq 8, 3) := by decide +kernel
theorem dX0_make_135 : decode cX0_make 135 = .ok (.iload 6, 2) := by decide +kernel
theorem dX0_make_137 : decode cX0_make 137 = .ok (.ifCond .eq 7, 3) := by decide +kernel
theorem dX0_make_140 : decode cX0_make 140 = .ok (.iconst 0, 1) := by decide +kernel
theorem dX0_make_141 : decode cX0_make 141 = .ok (.goto 9, 3) := by decide +kernel
