theorem dL_attackers_5 : decode cL_attackers 5 = .ok (.invokevirtual 37, 3) := by decide +kernel
theorem dL_attackers_8 : decode cL_attackers 8 = .ok (.lastore, 1) := by decide +kernel
theorem dL_attackers_9 : decode cL_attackers 9 = .ok (.goto 11, 3) := by decide +kernel
theorem dL_attackers_12 : decode cL_attackers 12 = .ok (.astore 4, 2) := by decide +kernel
theorem dL_attackers_14 : decode cL_attackers 14 = .ok (.iconst 1, 1) := by decide +kernel
theorem dL_attackers_15 : decode cL_attackers 15 = .ok (.ireturn, 1) := by decide +kernel
theorem dL_attackers_16 : decode cL_attackers 16 = .ok (.astore 4, 2) := by decide +kernel
theorem dL_attackers_18 : decode cL_attackers 18 = .ok (.iconst 2, 1) := by decide +kernel
theorem dL_attackers_19 : decode cL_attackers 19 = .ok (.ireturn, 1) := by decide +kernel
theorem dL_attackers_20 : decode cL_attackers 20 = .ok (.iconst 0, 1) := by decide +kernel
theorem dL_attackers_21 : decode cL_attackers 21 = .ok (.ireturn, 1) := by decide +kernel
set_option maxRecDepth 20000 in
theorem ggL_law_X0_init : GoodIn wsL_law wsX0_init := goodIn_r _ [9, 10, 11, 12, 13, 14, 15, 16, 17, 18, 19, 20, 21, 22, 23, 2, 24, 25, 26, 27, 28, 29, 30, 31, 32, 33, 34, 450, 451, 452, 453, 454, 455, 456, 457, 458, 459, 460, 461, 462] (by decide +kernel) (by decide +kernel)
set_option maxRecDepth 20000 in
theorem gL_law_X0_init : GoodIn wsL_law (wsX0_init) := ggL_law_X0_init
set_option maxRecDepth 20000 in
theorem ggL_law_X1_init : GoodIn wsL_law wsX1_init := goodIn_r _ [37, 38, 11, 12, 13, 39, 40, 41, 42, 43, 44, 45, 46, 463, 464, 465, 466, 467, 468, 469, 470, 471, 472, 473] (by decide +kernel) (by decide +kernel)
set_option maxRecDepth 20000 in
theorem gL_law_X1_init : GoodIn wsL_law (wsX1_init) := ggL_law_X1_init
set_option maxRecDepth 20000 in
theorem ggL_law_X0_clear : GoodIn wsL_law wsX0_clear := goodIn_r _ [50, 21, 22, 23, 2, 24, 14, 25, 26, 27, 28, 29, 30, 31, 32, 33, 34, 450, 451, 452, 453, 454, 455, 456, 457, 458, 459, 460, 461, 462] (by decide +kernel) (by decide +kernel)
set_option maxRecDepth 20000 in
theorem gL_law_X0_clear : GoodIn wsL_law (wsV RL 45 RX0 yX0_clear wsX0_clear) := goodIn_app (goodIn_of _ (by decide +kernel)) ggL_law_X0_clear
set_option maxRecDepth 20000 in
theorem ggL_law_X1_clear : GoodIn wsL_law wsX1_clear := goodIn_r _ [54, 55, 39, 56, 57, 40, 58, 41, 59, 463, 464, 465, 466, 467, 468, 469, 470, 471, 472, 473] (by decide +kernel) (by decide +kernel)
set_option maxRecDepth 20000 in
theorem gL_law_X1_clear : GoodIn wsL_law (wsV RL 48 RX1 yX1_clear wsX1_clear) := goodIn_app (goodIn_of _ (by decide +kernel)) ggL_law_X1_clear
set_option maxRecDepth 20000 in
theorem ggL_law_X0_begin : GoodIn wsL_law wsX0_begin := goodIn_r _ [63, 64, 14, 26, 21, 22, 23, 2, 24, 25, 27, 28, 29, 30, 31, 32, 33, 34, 65, 66, 67, 450, 451, 452, 453, 454, 455, 456, 457, 458, 459, 460, 461, 462] (by decide +kernel) (by decide +kernel)
set_option maxRecDepth 20000 in
theorem gL_law_X0_begin : GoodIn wsL_law (wsV RL 49 RX0 yX0_begin wsX0_begin) := goodIn_app (goodIn_of _ (by decide +kernel)) ggL_law_X0_begin
set_option maxRecDepth 20000 in
theorem ggL_law_X1_begin : GoodIn wsL_law wsX1_begin := goodIn_r _ [71, 39, 57, 72, 52, 53, 5, 54, 55, 56, 40, 58, 41, 59, 73, 74, 75, 463, 464, 465, 466, 467, 468, 469, 470, 471, 472, 473] (by decide +kernel) (by decide +kernel)
set_option maxRecDepth 20000 in
theorem gL_law_X1_begin : GoodIn wsL_law (wsV RL 52 RX1 yX1_begin wsX1_begin) := goodIn_app (goodIn_of _ (by decide +kernel)) ggL_law_X1_begin
set_option maxRecDepth 20000 in
theorem ggL_law_L_put : GoodIn wsL_law wsL_put := goodIn_ca (goodIn_ca (goodIn_ca (goodIn_r _ [79, 80, 81, 82, 83, 84, 85, 2, 86, 87, 88, 89, 90, 91, 92, 14, 93, 94, 95, 96, 97, 98, 99, 100, 101, 102, 103, 104, 105, 106, 107, 108, 109, 110, 30, 31, 32, 33, 34, 450, 451, 452, 453, 454, 455, 456, 457, 458, 459, 460, 461, 462] (by decide +kernel) (by decide +kernel)) (goodIn_sub (fun _ h => List.mem_append_left _ (List.mem_append_left _ (List.mem_append_right _ h))) (by decide +kernel))) (goodIn_sub (fun _ h => List.mem_append_left _ (List.mem_append_right _ h)) (by decide +kernel))) (goodIn_sub (fun _ h => List.mem_append_right _ h) (by decide +kernel))
set_option maxRecDepth 20000 in
theorem gL_law_L_put : GoodIn wsL_law (va_wsS RL 53 yL_put wsL_put) := goodIn_app (goodIn_of _ (by decide +kernel)) ggL_law_L_put
set_option maxRecDepth 20000 in
theorem ggL_law_X1_put : GoodIn wsL_law wsX1_put := goodIn_r _ [114, 55, 39, 59, 115, 116, 5, 117, 118, 119, 120, 121, 463, 464, 465, 466, 467, 468, 469, 470, 471, 472, 473] (by decide +kernel) (by decide +kernel)
set_option maxRecDepth 20000 in
theorem gL_law_X1_put : GoodIn wsL_law (wsV RL 58 RX1 yX1_put wsX1_put) := goodIn_app (goodIn_of _ (by decide +kernel)) ggL_law_X1_put
set_option maxRecDepth 20000 in
theorem ggL_law_X1_thrown : GoodIn wsL_law wsX1_thrown := goodIn_r _ [125, 55, 463, 464, 465, 466, 467, 468, 469, 470, 471, 472, 473] (by decide +kernel) (by decide +kernel)
set_option maxRecDepth 20000 in
theorem gL_law_X1_thrown : GoodIn wsL_law (wsV RL 59 RX1 yX1_thrown wsX1_thrown) := goodIn_app (goodIn_of _ (by decide +kernel)) ggL_law_X1_thrown
set_option maxRecDepth 20000 in
theorem ggL_law_L_state : GoodIn wsL_law wsL_state := goodIn_ca (goodIn_r _ [128, 81, 129, 130, 131, 2, 132, 89, 90, 25, 26, 27, 133, 134, 135, 93, 94, 95, 30, 31, 32, 33, 34, 450, 451, 452, 453, 454, 455, 456, 457, 458, 459, 460, 461, 462] (by decide +kernel) (by decide +kernel)) (goodIn_sub (fun _ h => List.mem_append_left _ (List.mem_append_right _ h)) (by decide +kernel))
set_option maxRecDepth 20000 in
theorem gL_law_L_state : GoodIn wsL_law (va_wsS RL 62 yL_state wsL_state) := goodIn_app (goodIn_of _ (by decide +kernel)) ggL_law_L_state
set_option maxRecDepth 20000 in
theorem ggL_law_X1_state : GoodIn wsL_law wsX1_state := goodIn_r _ [139, 55, 56, 57, 40, 59, 463, 464, 465, 466, 467, 468, 469, 470, 471, 472, 473] (by decide +kernel) (by decide +kernel)
set_option maxRecDepth 20000 in
theorem gL_law_X1_state : GoodIn wsL_law (wsV RL 65 RX1 yX1_state wsX1_state) := goodIn_app (goodIn_of _ (by decide +kernel)) ggL_law_X1_state
set_option maxRecDepth 20000 in
theorem ggL_law_L_clocks : GoodIn wsL_law wsL_clocks := goodIn_ca (goodIn_r _ [142, 81, 143, 144, 145, 2, 146, 89, 90, 28, 29, 30, 31, 32, 33, 34, 450, 451, 452, 453, 454, 455, 456, 457, 458, 459, 460, 461, 462] (by decide +kernel) (by decide +kernel)) (goodIn_sub (fun _ h => List.mem_append_left _ (List.mem_append_right _ h)) (by decide +kernel))
set_option maxRecDepth 20000 in
theorem gL_law_L_clocks : GoodIn wsL_law (va_wsS RL 66 yL_clocks wsL_clocks) := goodIn_app (goodIn_of _ (by decide +kernel)) ggL_law_L_clocks
set_option maxRecDepth 20000 in
theorem ggL_law_X1_clocks : GoodIn wsL_law wsX1_clocks := goodIn_r _ [150, 55, 58, 41, 59, 463, 464, 465, 466, 467, 468, 469, 470, 471, 472, 473] (by decide +kernel) (by decide +kernel)
set_option maxRecDepth 20000 in
theorem gL_law_X1_clocks : GoodIn wsL_law (wsV RL 68 RX1 yX1_clocks wsX1_clocks) := goodIn_app (goodIn_of _ (by decide +kernel)) ggL_law_X1_clocks
set_option maxRecDepth 20000 in
theorem ggL_law_X0_fits : GoodIn wsL_law wsX0_fits := goodIn_r _ [154, 14, 25, 155, 156, 2, 157, 158, 159, 160, 161, 162, 163, 164, 165, 166, 167, 168, 169, 170, 171, 172, 173, 174, 175, 176, 177, 178, 179, 180, 181, 182, 183, 184, 185, 186, 187, 188, 189, 190, 191, 192, 193, 93, 94, 95, 194, 195, 196, 197, 198, 199, 200, 201, 202, 203, 204, 205, 206, 207, 208, 209, 210, 211, 212, 213, 214, 215, 216, 217, 27, 218, 219, 220, 221, 65, 66, 67, 222, 223, 224, 225, 226, 227, 228, 229, 230, 231, 232, 233, 234, 235, 236, 237, 238, 239, 240, 241, 242, 243, 244, 26, 245, 246, 247, 248, 249, 250, 251, 252, 253, 254, 255, 256, 450, 451, 452, 453, 454, 455, 456, 457, 458, 459, 460, 461, 462] (by decide +kernel) (by decide +kernel)
set_option maxRecDepth 20000 in
theorem gL_law_X0_fits : GoodIn wsL_law (wsV RL 69 RX0 yX0_fits wsX0_fits) := goodIn_app (goodIn_of _ (by decide +kernel)) ggL_law_X0_fits
set_option maxRecDepth 20000 in
theorem ggL_law_X1_fits : GoodIn wsL_law wsX1_fits := goodIn_r _ [260, 55, 261, 262, 263, 5, 264, 39, 56, 265, 266, 267, 268, 269, 270, 271, 272, 273, 274, 275, 276, 277, 278, 279, 280, 281, 282, 283, 284, 285, 286, 287, 288, 289, 40, 115, 116, 117, 290, 291, 292, 293, 57, 463, 464, 465, 466, 467, 468, 469, 470, 471, 472, 473] (by decide +kernel) (by decide +kernel)
set_option maxRecDepth 20000 in
theorem gL_law_X1_fits : GoodIn wsL_law (wsV RL 73 RX1 yX1_fits wsX1_fits) := goodIn_app (goodIn_of _ (by decide +kernel)) ggL_law_X1_fits
set_option maxRecDepth 20000 in
theorem ggL_law_L_make : GoodIn wsL_law wsL_make := goodIn_ca (goodIn_ca (goodIn_r _ [296, 81, 82, 297, 298, 299, 2, 300, 89, 90, 91, 92, 34, 14, 26, 27, 28, 25, 29, 301, 152, 153, 154, 155, 156, 157, 158, 159, 160, 161, 162, 163, 164, 165, 166, 167, 168, 169, 170, 171, 172, 173, 174, 175, 176, 177, 178, 179, 180, 181, 182, 183, 184, 185, 186, 187, 188, 189, 190, 191, 192, 193, 93, 94, 95, 194, 195, 196, 197, 198, 199, 200, 201, 202, 203, 204, 205, 206, 207, 208, 209, 210, 211, 212, 213, 214, 215, 216, 217, 218, 219, 220, 221, 65, 66, 67, 222, 223, 224, 225, 226, 227, 228, 229, 230, 231, 232, 233, 234, 235, 236, 237, 238, 239, 240, 241, 242, 243, 244, 245, 246, 247, 248, 249, 250, 251, 252, 253, 254, 255, 256, 302, 303, 304, 305, 306, 307, 308, 309, 15, 16, 17, 18, 19, 20, 310, 311, 312, 313, 314, 315, 316, 317, 318, 319, 320, 321, 322, 323, 324, 325, 326, 327, 450, 451, 452, 453, 454, 455, 456, 457, 458, 459, 460, 461, 462] (by decide +kernel) (by decide +kernel)) (goodIn_sub (fun _ h => List.mem_append_left _ (List.mem_append_right _ h)) (by decide +kernel))) (goodIn_sub (fun _ h => List.mem_append_right _ h) (by decide +kernel))
set_option maxRecDepth 20000 in
theorem gL_law_L_make : GoodIn wsL_law (va_wsS RL 74 yL_make wsL_make) := goodIn_app (goodIn_of _ (by decide +kernel)) ggL_law_L_make
set_option maxRecDepth 20000 in
theorem ggL_law_X1_make : GoodIn wsL_law wsX1_make := goodIn_r _ [331, 59, 55, 39, 56, 57, 40, 58, 41, 261, 262, 263, 5, 264, 265, 266, 267, 268, 269, 270, 271, 272, 273, 274, 275, 276, 277, 278, 279, 280, 281, 282, 283, 284, 285, 286, 287, 288, 289, 115, 116, 117, 290, 291, 292, 293, 332, 333, 334, 335, 45, 46, 42, 336, 337, 338, 339, 340, 341, 342, 463, 464, 465, 466, 467, 468, 469, 470, 471, 472, 473] (by decide +kernel) (by decide +kernel)
set_option maxRecDepth 20000 in
theorem gL_law_X1_make : GoodIn wsL_law (wsV RL 77 RX1 yX1_make wsX1_make) := goodIn_app (goodIn_of _ (by decide +kernel)) ggL_law_X1_make
set_option maxRecDepth 20000 in
theorem ggL_law_L_unmake : GoodIn wsL_law wsL_unmake := goodIn_ca (goodIn_r _ [345, 82, 346, 347, 348, 2, 349, 91, 92, 34, 15, 18, 26, 19, 27, 20, 28, 25, 29, 16, 17, 211, 212, 213, 350, 351, 352, 353, 14, 155, 156, 157, 158, 159, 160, 167, 168, 169, 65, 66, 67, 314, 315, 316, 164, 165, 166, 248, 249, 250, 204, 205, 206, 207, 173, 174, 175, 251, 252, 253, 317, 318, 319, 320, 93, 94, 95, 450, 451, 452, 453, 454, 455, 456, 457, 458, 459, 460, 461, 462] (by decide +kernel) (by decide +kernel)) (goodIn_sub (fun _ h => List.mem_append_right _ h) (by decide +kernel))
set_option maxRecDepth 20000 in
theorem gL_law_L_unmake : GoodIn wsL_law (va_wsS RL 78 yL_unmake wsL_unmake) := goodIn_app (goodIn_of _ (by decide +kernel)) ggL_law_L_unmake
set_option maxRecDepth 20000 in
theorem ggL_law_X1_unmake : GoodIn wsL_law wsX1_unmake := goodIn_r _ [357, 59, 55, 39, 45, 46, 56, 57, 40, 58, 41, 42, 463, 464, 465, 466, 467, 468, 469, 470, 471, 472, 473] (by decide +kernel) (by decide +kernel)
set_option maxRecDepth 20000 in
theorem gL_law_X1_unmake : GoodIn wsL_law (wsV RL 81 RX1 yX1_unmake wsX1_unmake) := goodIn_app (goodIn_of _ (by decide +kernel)) ggL_law_X1_unmake
set_option maxRecDepth 20000 in
theorem ggL_law_L_at : GoodIn wsL_law wsL_at := goodIn_ca (goodIn_r _ [360, 80, 361, 362, 363, 2, 364, 87, 88, 14, 93, 94, 95, 450, 451, 452, 453, 454, 455, 456, 457, 458, 459, 460, 461, 462] (by decide +kernel) (by decide +kernel)) (goodIn_sub (fun _ h => List.mem_append_left _ (List.mem_append_left _ (List.mem_append_right _ h))) (by decide +kernel))
