set_option maxRecDepth 20000 in
theorem gL_law_L_at : GoodIn wsL_law (va_wsS RL 82 yL_at wsL_at) := goodIn_app (goodIn_of _ (by decide +kernel)) ggL_law_L_at
set_option maxRecDepth 20000 in
theorem ggL_law_X1_at : GoodIn wsL_law wsX1_at := goodIn_r _ [368, 55, 39, 115, 116, 5, 117, 463, 464, 465, 466, 467, 468, 469, 470, 471, 472, 473] (by decide +kernel) (by decide +kernel)
set_option maxRecDepth 20000 in
theorem gL_law_X1_at : GoodIn wsL_law (wsV RL 84 RX1 yX1_at wsX1_at) := goodIn_app (goodIn_of _ (by decide +kernel)) ggL_law_X1_at
set_option maxRecDepth 20000 in
theorem ggL_law_X0_where : GoodIn wsL_law wsX0_where := goodIn_r _ [103, 14, 450, 451, 452, 453, 454, 455, 456, 457, 458, 459, 460, 461, 462] (by decide +kernel) (by decide +kernel)
set_option maxRecDepth 20000 in
theorem gL_law_X0_where : GoodIn wsL_law (wsV RL 85 RX0 yX0_where wsX0_where) := goodIn_app (goodIn_of _ (by decide +kernel)) ggL_law_X0_where
set_option maxRecDepth 20000 in
theorem ggL_law_X1_where : GoodIn wsL_law wsX1_where := goodIn_r _ [373, 55, 39, 463, 464, 465, 466, 467, 468, 469, 470, 471, 472, 473] (by decide +kernel) (by decide +kernel)
set_option maxRecDepth 20000 in
theorem gL_law_X1_where : GoodIn wsL_law (wsV RL 89 RX1 yX1_where wsX1_where) := goodIn_app (goodIn_of _ (by decide +kernel)) ggL_law_X1_where
set_option maxRecDepth 20000 in
theorem ggL_law_L_attackers : GoodIn wsL_law wsL_attackers := goodIn_ca (goodIn_ca (goodIn_r _ [376, 80, 81, 377, 378, 379, 2, 380, 87, 88, 89, 90, 14, 93, 94, 95, 133, 134, 135, 161, 162, 163, 226, 227, 228, 229, 204, 205, 206, 207, 208, 209, 210, 173, 174, 175, 164, 165, 166, 201, 202, 203, 187, 188, 189, 230, 231, 232, 233, 234, 235, 236, 237, 238, 239, 240, 190, 191, 192, 193, 450, 451, 452, 453, 454, 455, 456, 457, 458, 459, 460, 461, 462] (by decide +kernel) (by decide +kernel)) (goodIn_sub (fun _ h => List.mem_append_left _ (List.mem_append_left _ (List.mem_append_right _ h))) (by decide +kernel))) (goodIn_sub (fun _ h => List.mem_append_left _ (List.mem_append_right _ h)) (by decide +kernel))
set_option maxRecDepth 20000 in
theorem gL_law_L_attackers : GoodIn wsL_law (va_wsS RL 90 yL_attackers wsL_attackers) := goodIn_app (goodIn_of _ (by decide +kernel)) ggL_law_L_attackers
set_option maxRecDepth 20000 in
theorem ggL_law_X1_attackers : GoodIn wsL_law wsX1_attackers := goodIn_r _ [384, 55, 39, 115, 116, 5, 117, 268, 269, 270, 275, 276, 277, 278, 265, 266, 267, 279, 280, 281, 282, 283, 284, 285, 463, 464, 465, 466, 467, 468, 469, 470, 471, 472, 473] (by decide +kernel) (by decide +kernel)
set_option maxRecDepth 20000 in
theorem gL_law_X1_attackers : GoodIn wsL_law (wsV RL 93 RX1 yX1_attackers wsX1_attackers) := goodIn_app (goodIn_of _ (by decide +kernel)) ggL_law_X1_attackers
set_option maxRecDepth 20000 in
theorem ggL_law_X0_check : GoodIn wsL_law wsX0_check := goodIn_ca (goodIn_ca (goodIn_r _ [388, 14, 133, 134, 2, 135, 65, 66, 67, 211, 212, 213, 389, 378, 379, 380, 87, 88, 89, 90, 93, 94, 95, 161, 162, 163, 226, 227, 228, 229, 204, 205, 206, 207, 208, 209, 210, 173, 174, 175, 164, 165, 166, 201, 202, 203, 187, 188, 189, 230, 231, 232, 233, 234, 235, 236, 237, 238, 239, 240, 190, 191, 192, 193, 450, 451, 452, 453, 454, 455, 456, 457, 458, 459, 460, 461, 462] (by decide +kernel) (by decide +kernel)) (goodIn_sub (fun _ h => List.mem_append_left _ (List.mem_append_left _ (List.mem_append_right _ h))) (by decide +kernel))) (goodIn_sub (fun _ h => List.mem_append_left _ (List.mem_append_right _ h)) (by decide +kernel))
set_option maxRecDepth 20000 in
theorem gL_law_X0_check : GoodIn wsL_law (wsV RL 94 RX0 yX0_check wsX0_check) := goodIn_app (goodIn_of _ (by decide +kernel)) ggL_law_X0_check
set_option maxRecDepth 20000 in
theorem ggL_law_X1_check : GoodIn wsL_law wsX1_check := goodIn_r _ [393, 55, 39, 394, 395, 396, 5, 397, 268, 269, 270, 275, 276, 277, 278, 265, 266, 267, 279, 280, 281, 282, 283, 284, 285, 463, 464, 465, 466, 467, 468, 469, 470, 471, 472, 473] (by decide +kernel) (by decide +kernel)
set_option maxRecDepth 20000 in
theorem gL_law_X1_check : GoodIn wsL_law (wsV RL 97 RX1 yX1_check wsX1_check) := goodIn_app (goodIn_of _ (by decide +kernel)) ggL_law_X1_check
set_option maxRecDepth 20000 in
theorem ggL_law_X0_key : GoodIn wsL_law wsX0_key := goodIn_r _ [401, 26, 27, 25, 402, 14, 403, 404, 2, 405, 406, 407, 408, 450, 451, 452, 453, 454, 455, 456, 457, 458, 459, 460, 461, 462] (by decide +kernel) (by decide +kernel)
set_option maxRecDepth 20000 in
theorem gL_law_X0_key : GoodIn wsL_law (wsV RL 98 RX0 yX0_key wsX0_key) := goodIn_app (goodIn_of _ (by decide +kernel)) ggL_law_X0_key
set_option maxRecDepth 20000 in
theorem ggL_law_X1_key : GoodIn wsL_law wsX1_key := goodIn_r _ [412, 55, 413, 57, 414, 40, 39, 415, 56, 416, 417, 418, 5, 419, 420, 421, 422, 463, 464, 465, 466, 467, 468, 469, 470, 471, 472, 473] (by decide +kernel) (by decide +kernel)
set_option maxRecDepth 20000 in
theorem gL_law_X1_key : GoodIn wsL_law (wsV RL 102 RX1 yX1_key wsX1_key) := goodIn_app (goodIn_of _ (by decide +kernel)) ggL_law_X1_key
set_option maxRecDepth 20000 in
theorem ggL_law_X0_move : GoodIn wsL_law wsX0_move := goodIn_r _ [426, 34, 15, 450, 451, 452, 453, 454, 455, 456, 457, 458, 459, 460, 461, 462] (by decide +kernel) (by decide +kernel)
set_option maxRecDepth 20000 in
theorem gL_law_X0_move : GoodIn wsL_law (wsV RL 103 RX0 yX0_move wsX0_move) := goodIn_app (goodIn_of _ (by decide +kernel)) ggL_law_X0_move
set_option maxRecDepth 20000 in
theorem ggL_law_X1_move : GoodIn wsL_law wsX1_move := goodIn_r _ [430, 55, 59, 42, 463, 464, 465, 466, 467, 468, 469, 470, 471, 472, 473] (by decide +kernel) (by decide +kernel)
set_option maxRecDepth 20000 in
theorem gL_law_X1_move : GoodIn wsL_law (wsV RL 106 RX1 yX1_move wsX1_move) := goodIn_app (goodIn_of _ (by decide +kernel)) ggL_law_X1_move
set_option maxRecDepth 20000 in
theorem ggL_law_X0_look : GoodIn wsL_law wsX0_look := goodIn_r _ [434, 25, 26, 27, 28, 29, 34, 96, 97, 98, 2, 99, 100, 101, 102, 103, 14, 104, 105, 106, 107, 108, 109, 110, 435, 436, 437, 438, 161, 162, 163, 164, 165, 166, 439, 440, 441, 450, 451, 452, 453, 454, 455, 456, 457, 458, 459, 460, 461, 462] (by decide +kernel) (by decide +kernel)
set_option maxRecDepth 20000 in
theorem gL_law_X0_look : GoodIn wsL_law (wsV RL 107 RX0 yX0_look wsX0_look) := goodIn_app (goodIn_of _ (by decide +kernel)) ggL_law_X0_look
set_option maxRecDepth 20000 in
theorem ggL_law_X1_look : GoodIn wsL_law wsX1_look := goodIn_r _ [445, 55, 56, 57, 40, 58, 41, 59, 118, 119, 120, 5, 121, 39, 446, 447, 448, 449, 268, 269, 270, 265, 266, 267, 463, 464, 465, 466, 467, 468, 469, 470, 471, 472, 473] (by decide +kernel) (by decide +kernel)
set_option maxRecDepth 20000 in
theorem gL_law_X1_look : GoodIn wsL_law (wsV RL 110 RX1 yX1_look wsX1_look) := goodIn_app (goodIn_of _ (by decide +kernel)) ggL_law_X1_look

