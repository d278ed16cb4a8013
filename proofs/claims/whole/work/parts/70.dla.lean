set_option maxRecDepth 20000 in
theorem ggL_law_X4_init : GoodIn wsL_law wsX4_init := goodIn_r _ [9, 10, 11, 12, 13, 14, 15, 16, 17, 18, 19, 20, 21, 22, 23, 24, 25, 26, 27, 28, 29, 6, 30, 31, 32, 33, 34, 35, 36, 37, 38, 530, 531, 532, 533, 534, 535, 550, 551, 552, 553, 554] (by decide +kernel) (by decide +kernel)
set_option maxRecDepth 20000 in
theorem gL_law_X4_init : GoodIn wsL_law (wsX4_init) := ggL_law_X4_init
set_option maxRecDepth 20000 in
theorem ggL_law_X5_init : GoodIn wsL_law wsX5_init := goodIn_r _ [41, 42, 11, 12, 35, 43, 44, 45, 46, 47, 48, 49, 50, 6, 51, 52, 53, 54, 536, 537, 538, 539, 540, 541, 542, 543, 544, 545, 546, 547, 548, 549] (by decide +kernel) (by decide +kernel)
set_option maxRecDepth 20000 in
theorem gL_law_X5_init : GoodIn wsL_law (wsX5_init) := ggL_law_X5_init
set_option maxRecDepth 20000 in
theorem ggL_law_X4_net : GoodIn wsL_law wsX4_net := goodIn_r _ [58, 25, 14, 13, 59, 60, 61, 62, 63, 64, 11, 12, 35, 65, 46, 66, 67, 68, 69, 70, 71, 72, 73, 74, 530, 531, 532, 533, 534, 535, 555, 556, 557, 558, 559, 560, 561] (by decide +kernel) (by decide +kernel)
set_option maxRecDepth 20000 in
theorem gL_law_X4_net : GoodIn wsL_law (wsV RL 80 RX4 yX4_net wsX4_net) := goodIn_app (goodIn_of _ (by decide +kernel)) ggL_law_X4_net
set_option maxRecDepth 20000 in
theorem ggL_law_X5_net : GoodIn wsL_law wsX5_net := goodIn_r _ [78, 79, 80, 43, 44, 45, 536, 537, 538, 539, 540, 541, 542, 543, 544, 545, 546, 547, 548, 549] (by decide +kernel) (by decide +kernel)
set_option maxRecDepth 20000 in
theorem gL_law_X5_net : GoodIn wsL_law (wsV RL 83 RX5 yX5_net wsX5_net) := goodIn_app (goodIn_of _ (by decide +kernel)) ggL_law_X5_net
set_option maxRecDepth 20000 in
theorem ggL_law_L_join : GoodIn wsL_law wsL_join := goodIn_ca (goodIn_r _ [84, 85, 86, 87, 88, 2, 89, 90, 91, 92, 93, 94, 95, 96, 14, 97, 98, 99, 100, 101, 102, 103, 104, 105, 106, 107, 60, 108, 65, 555, 556, 557, 558, 559, 560, 561, 530, 531, 532, 533, 534, 535] (by decide +kernel) (by decide +kernel)) (goodIn_sub (fun _ h => List.mem_append_left _ (List.mem_append_right _ h)) (by decide +kernel))
set_option maxRecDepth 20000 in
theorem gL_law_L_join : GoodIn wsL_law (va_wsS RL 84 yL_join wsL_join) := goodIn_app (goodIn_of _ (by decide +kernel)) ggL_law_L_join
set_option maxRecDepth 20000 in
theorem ggL_law_X5_join : GoodIn wsL_law wsX5_join := goodIn_r _ [112, 48, 45, 113, 114, 115, 5, 116, 79, 80, 117, 118, 119, 120, 121, 122, 123, 124, 43, 44, 536, 537, 538, 539, 540, 541, 542, 543, 544, 545, 546, 547, 548, 549] (by decide +kernel) (by decide +kernel)
set_option maxRecDepth 20000 in
theorem gL_law_X5_join : GoodIn wsL_law (wsV RL 89 RX5 yX5_join wsX5_join) := goodIn_app (goodIn_of _ (by decide +kernel)) ggL_law_X5_join
set_option maxRecDepth 20000 in
theorem ggL_law_X5_thrown : GoodIn wsL_law wsX5_thrown := goodIn_r _ [128, 79, 536, 537, 538, 539, 540, 541, 542, 543, 544, 545, 546, 547, 548, 549] (by decide +kernel) (by decide +kernel)
set_option maxRecDepth 20000 in
theorem gL_law_X5_thrown : GoodIn wsL_law (wsV RL 90 RX5 yX5_thrown wsX5_thrown) := goodIn_app (goodIn_of _ (by decide +kernel)) ggL_law_X5_thrown
set_option maxRecDepth 20000 in
theorem ggL_law_L_leads : GoodIn wsL_law wsL_leads := goodIn_ca (goodIn_r _ [131, 85, 132, 133, 134, 2, 135, 136, 91, 92, 93, 94, 95, 96, 14, 97, 98, 99, 100, 101, 102, 103, 104, 555, 556, 557, 558, 559, 560, 561, 530, 531, 532, 533, 534, 535] (by decide +kernel) (by decide +kernel)) (goodIn_sub (fun _ h => List.mem_append_left _ (List.mem_append_right _ h)) (by decide +kernel))
set_option maxRecDepth 20000 in
theorem gL_law_L_leads : GoodIn wsL_law (va_wsS RL 94 yL_leads wsL_leads) := goodIn_app (goodIn_of _ (by decide +kernel)) ggL_law_L_leads
set_option maxRecDepth 20000 in
theorem ggL_law_X5_leads : GoodIn wsL_law wsX5_leads := goodIn_r _ [140, 45, 113, 114, 115, 5, 116, 79, 80, 117, 118, 119, 120, 121, 122, 123, 124, 43, 44, 536, 537, 538, 539, 540, 541, 542, 543, 544, 545, 546, 547, 548, 549] (by decide +kernel) (by decide +kernel)
set_option maxRecDepth 20000 in
theorem gL_law_X5_leads : GoodIn wsL_law (wsV RL 97 RX5 yX5_leads wsX5_leads) := goodIn_app (goodIn_of _ (by decide +kernel)) ggL_law_X5_leads
set_option maxRecDepth 20000 in
theorem ggL_law_L_mark : GoodIn wsL_law wsL_mark := goodIn_ca (goodIn_r _ [143, 85, 144, 145, 146, 2, 147, 90, 148, 91, 92, 93, 94, 95, 96, 14, 101, 102, 103, 104, 555, 556, 557, 558, 559, 560, 561, 530, 531, 532, 533, 534, 535] (by decide +kernel) (by decide +kernel)) (goodIn_sub (fun _ h => List.mem_append_left _ (List.mem_append_right _ h)) (by decide +kernel))
set_option maxRecDepth 20000 in
theorem gL_law_L_mark : GoodIn wsL_law (va_wsS RL 98 yL_mark wsL_mark) := goodIn_app (goodIn_of _ (by decide +kernel)) ggL_law_L_mark
set_option maxRecDepth 20000 in
theorem ggL_law_X5_mark : GoodIn wsL_law wsX5_mark := goodIn_r _ [152, 43, 48, 47, 113, 114, 115, 5, 116, 79, 80, 117, 118, 119, 120, 536, 537, 538, 539, 540, 541, 542, 543, 544, 545, 546, 547, 548, 549] (by decide +kernel) (by decide +kernel)
set_option maxRecDepth 20000 in
theorem gL_law_X5_mark : GoodIn wsL_law (wsV RL 101 RX5 yX5_mark wsX5_mark) := goodIn_app (goodIn_of _ (by decide +kernel)) ggL_law_X5_mark
set_option maxRecDepth 20000 in
theorem ggL_law_L_alike : GoodIn wsL_law wsL_alike := goodIn_ca (goodIn_r _ [155, 85, 156, 157, 158, 2, 159, 24, 160, 161, 91, 92, 93, 94, 95, 96, 14, 101, 102, 103, 104, 162, 163, 164, 23, 165, 166, 37, 167, 38, 168, 169, 170, 171, 36, 172, 173, 174, 175, 176, 177, 530, 531, 532, 533, 534, 535, 552, 553, 554, 555, 556, 557, 558, 559, 560, 561] (by decide +kernel) (by decide +kernel)) (goodIn_sub (fun _ h => List.mem_append_left _ (List.mem_append_right _ h)) (by decide +kernel))
set_option maxRecDepth 20000 in
theorem gL_law_L_alike : GoodIn wsL_law (va_wsS RL 102 yL_alike wsL_alike) := goodIn_app (goodIn_of _ (by decide +kernel)) ggL_law_L_alike
set_option maxRecDepth 20000 in
theorem ggL_law_X5_alike : GoodIn wsL_law wsX5_alike := goodIn_r _ [181, 43, 53, 113, 114, 115, 5, 116, 79, 80, 117, 118, 119, 120, 182, 183, 184, 185, 47, 54, 186, 187, 188, 189, 190, 191, 192, 193, 44, 45, 536, 537, 538, 539, 540, 541, 542, 543, 544, 545, 546, 547, 548, 549] (by decide +kernel) (by decide +kernel)
set_option maxRecDepth 20000 in
theorem gL_law_X5_alike : GoodIn wsL_law (wsV RL 105 RX5 yX5_alike wsX5_alike) := goodIn_app (goodIn_of _ (by decide +kernel)) ggL_law_X5_alike
set_option maxRecDepth 20000 in
theorem ggL_law_L_walk : GoodIn wsL_law wsL_walk := goodIn_ca (goodIn_r _ [196, 85, 197, 198, 199, 2, 200, 26, 90, 16, 15, 201, 202, 91, 92, 93, 94, 95, 96, 14, 203, 204, 205, 206, 11, 12, 207, 18, 19, 208, 209, 210, 27, 28, 29, 6, 30, 31, 530, 531, 532, 533, 534, 535, 555, 556, 557, 558, 559, 560, 561, 562, 563, 564, 550, 551] (by decide +kernel) (by decide +kernel)) (goodIn_sub (fun _ h => List.mem_append_left _ (List.mem_append_right _ h)) (by decide +kernel))
set_option maxRecDepth 20000 in
theorem gL_law_L_walk : GoodIn wsL_law (va_wsS RL 106 yL_walk wsL_walk) := goodIn_app (goodIn_of _ (by decide +kernel)) ggL_law_L_walk
set_option maxRecDepth 20000 in
theorem ggL_law_X5_walk : GoodIn wsL_law wsX5_walk := goodIn_r _ [214, 215, 49, 48, 113, 114, 115, 5, 116, 79, 80, 117, 118, 119, 120, 536, 537, 538, 539, 540, 541, 542, 543, 544, 545, 546, 547, 548, 549] (by decide +kernel) (by decide +kernel)
set_option maxRecDepth 20000 in
theorem gL_law_X5_walk : GoodIn wsL_law (wsV RL 109 RX5 yX5_walk wsX5_walk) := goodIn_app (goodIn_of _ (by decide +kernel)) ggL_law_X5_walk
set_option maxRecDepth 20000 in
theorem ggL_law_L_set : GoodIn wsL_law wsL_set := goodIn_ca (goodIn_ca (goodIn_r _ [218, 85, 219, 220, 221, 222, 2, 223, 224, 225, 226, 227, 228, 229, 230, 231, 95, 96, 16, 97, 98, 99, 100, 101, 102, 103, 104, 232, 233, 234, 235, 236, 237, 238, 239, 240, 241, 242, 243, 244, 19, 245, 30, 562, 563, 564, 550, 551, 530, 531, 532, 533, 534, 535, 555, 556, 557, 558, 559, 560, 561] (by decide +kernel) (by decide +kernel)) (goodIn_sub (fun _ h => List.mem_append_left _ (List.mem_append_right _ h)) (by decide +kernel))) (goodIn_sub (fun _ h => List.mem_append_right _ h) (by decide +kernel))
set_option maxRecDepth 20000 in
theorem gL_law_L_set : GoodIn wsL_law (va_wsS RL 110 yL_set wsL_set) := goodIn_app (goodIn_of _ (by decide +kernel)) ggL_law_L_set
set_option maxRecDepth 20000 in
theorem ggL_law_X5_set : GoodIn wsL_law wsX5_set := goodIn_r _ [249, 49, 51, 50, 250, 251, 252, 5, 253, 79, 215, 117, 118, 119, 120, 121, 122, 123, 124, 43, 44, 254, 255, 256, 257, 258, 536, 537, 538, 539, 540, 541, 542, 543, 544, 545, 546, 547, 548, 549] (by decide +kernel) (by decide +kernel)
set_option maxRecDepth 20000 in
theorem gL_law_X5_set : GoodIn wsL_law (wsV RL 113 RX5 yX5_set wsX5_set) := goodIn_app (goodIn_of _ (by decide +kernel)) ggL_law_X5_set
set_option maxRecDepth 20000 in
theorem ggL_law_L_spread : GoodIn wsL_law wsL_spread := goodIn_ca (goodIn_ca (goodIn_r _ [261, 85, 219, 262, 263, 264, 2, 265, 225, 224, 228, 229, 230, 231, 95, 96, 16, 232, 233, 234, 235, 236, 237, 238, 239, 240, 241, 266, 267, 268, 19, 269, 270, 271, 30, 31, 562, 563, 564, 530, 531, 532, 533, 534, 535, 555, 556, 557, 558, 559, 560, 561, 550, 551] (by decide +kernel) (by decide +kernel)) (goodIn_sub (fun _ h => List.mem_append_left _ (List.mem_append_right _ h)) (by decide +kernel))) (goodIn_sub (fun _ h => List.mem_append_right _ h) (by decide +kernel))
set_option maxRecDepth 20000 in
theorem gL_law_L_spread : GoodIn wsL_law (va_wsS RL 114 yL_spread wsL_spread) := goodIn_app (goodIn_of _ (by decide +kernel)) ggL_law_L_spread
set_option maxRecDepth 20000 in
theorem ggL_law_X5_spread : GoodIn wsL_law wsX5_spread := goodIn_r _ [275, 43, 49, 44, 51, 50, 250, 251, 252, 5, 253, 79, 215, 117, 118, 119, 120, 254, 255, 256, 257, 258, 536, 537, 538, 539, 540, 541, 542, 543, 544, 545, 546, 547, 548, 549] (by decide +kernel) (by decide +kernel)
set_option maxRecDepth 20000 in
theorem gL_law_X5_spread : GoodIn wsL_law (wsV RL 117 RX5 yX5_spread wsX5_spread) := goodIn_app (goodIn_of _ (by decide +kernel)) ggL_law_X5_spread
set_option maxRecDepth 20000 in
theorem ggL_law_L_step : GoodIn wsL_law wsL_step := goodIn_ca (goodIn_ca (goodIn_r _ [278, 85, 219, 279, 280, 281, 2, 282, 225, 224, 227, 228, 229, 230, 231, 95, 96, 16, 283, 284, 285, 235, 236, 286, 287, 288, 19, 289, 290, 291, 292, 293, 30, 294, 295, 296, 297, 31, 298, 299, 300, 301, 302, 303, 304, 270, 271, 305, 306, 307, 308, 309, 310, 311, 312, 313, 314, 315, 316, 317, 318, 319, 320, 562, 563, 564, 550, 551, 530, 531, 532, 533, 534, 535, 555, 556, 557, 558, 559, 560, 561] (by decide +kernel) (by decide +kernel)) (goodIn_sub (fun _ h => List.mem_append_left _ (List.mem_append_right _ h)) (by decide +kernel))) (goodIn_sub (fun _ h => List.mem_append_right _ h) (by decide +kernel))
set_option maxRecDepth 20000 in
theorem gL_law_L_step : GoodIn wsL_law (va_wsS RL 118 yL_step wsL_step) := goodIn_app (goodIn_of _ (by decide +kernel)) ggL_law_L_step
set_option maxRecDepth 20000 in
theorem ggL_law_X5_step : GoodIn wsL_law wsX5_step := goodIn_r _ [324, 50, 250, 251, 252, 5, 253, 79, 215, 117, 118, 119, 120, 325, 326, 327, 328, 329, 330, 331, 332, 333, 334, 335, 51, 336, 337, 338, 339, 49, 340, 341, 342, 343, 344, 345, 346, 347, 348, 44, 349, 350, 351, 352, 353, 354, 355, 356, 43, 47, 357, 358, 359, 360, 361, 362, 363, 364, 365, 366, 52, 45, 536, 537, 538, 539, 540, 541, 542, 543, 544, 545, 546, 547, 548, 549] (by decide +kernel) (by decide +kernel)
set_option maxRecDepth 20000 in
theorem gL_law_X5_step : GoodIn wsL_law (wsV RL 120 RX5 yX5_step wsX5_step) := goodIn_app (goodIn_of _ (by decide +kernel)) ggL_law_X5_step
set_option maxRecDepth 20000 in
theorem ggL_law_L_back : GoodIn wsL_law wsL_back := goodIn_ca (goodIn_ca (goodIn_r _ [369, 85, 219, 370, 371, 372, 2, 373, 225, 227, 224, 228, 229, 230, 231, 95, 96, 16, 283, 284, 285, 235, 236, 374, 375, 376, 19, 377, 270, 271, 31, 316, 317, 318, 319, 320, 30, 310, 311, 312, 313, 314, 315, 378, 379, 380, 381, 382, 383, 305, 306, 307, 308, 309, 562, 563, 564, 550, 551, 530, 531, 532, 533, 534, 535, 555, 556, 557, 558, 559, 560, 561] (by decide +kernel) (by decide +kernel)) (goodIn_sub (fun _ h => List.mem_append_left _ (List.mem_append_right _ h)) (by decide +kernel))) (goodIn_sub (fun _ h => List.mem_append_right _ h) (by decide +kernel))
set_option maxRecDepth 20000 in
theorem gL_law_L_back : GoodIn wsL_law (va_wsS RL 121 yL_back wsL_back) := goodIn_app (goodIn_of _ (by decide +kernel)) ggL_law_L_back
set_option maxRecDepth 20000 in
theorem ggL_law_X5_back : GoodIn wsL_law wsX5_back := goodIn_r _ [387, 50, 51, 250, 251, 252, 5, 253, 79, 215, 117, 118, 119, 120, 325, 326, 327, 363, 364, 365, 366, 52, 45, 49, 357, 358, 359, 360, 44, 43, 361, 362, 345, 346, 347, 348, 353, 354, 355, 356, 47, 536, 537, 538, 539, 540, 541, 542, 543, 544, 545, 546, 547, 548, 549] (by decide +kernel) (by decide +kernel)
set_option maxRecDepth 20000 in
theorem gL_law_X5_back : GoodIn wsL_law (wsV RL 123 RX5 yX5_back wsX5_back) := goodIn_app (goodIn_of _ (by decide +kernel)) ggL_law_X5_back
set_option maxRecDepth 20000 in
theorem ggL_law_L_at : GoodIn wsL_law wsL_at := goodIn_ca (goodIn_r _ [390, 85, 391, 392, 393, 2, 394, 225, 226, 224, 228, 229, 230, 231, 95, 96, 16, 97, 98, 99, 100, 101, 102, 103, 104, 562, 563, 564, 550, 551, 530, 531, 532, 533, 534, 535, 555, 556, 557, 558, 559, 560, 561] (by decide +kernel) (by decide +kernel)) (goodIn_sub (fun _ h => List.mem_append_left _ (List.mem_append_right _ h)) (by decide +kernel))
set_option maxRecDepth 20000 in
theorem gL_law_L_at : GoodIn wsL_law (va_wsS RL 124 yL_at wsL_at) := goodIn_app (goodIn_of _ (by decide +kernel)) ggL_law_L_at
set_option maxRecDepth 20000 in
theorem ggL_law_X5_at : GoodIn wsL_law wsX5_at := goodIn_r _ [398, 49, 51, 250, 251, 252, 5, 253, 79, 215, 117, 118, 119, 120, 121, 122, 123, 124, 43, 44, 536, 537, 538, 539, 540, 541, 542, 543, 544, 545, 546, 547, 548, 549] (by decide +kernel) (by decide +kernel)
set_option maxRecDepth 20000 in
theorem gL_law_X5_at : GoodIn wsL_law (wsV RL 126 RX5 yX5_at wsX5_at) := goodIn_app (goodIn_of _ (by decide +kernel)) ggL_law_X5_at
set_option maxRecDepth 20000 in
theorem ggL_law_L_share : GoodIn wsL_law wsL_share := goodIn_ca (goodIn_r _ [401, 85, 402, 403, 404, 2, 405, 225, 224, 228, 229, 230, 231, 95, 96, 16, 286, 287, 288, 19, 289, 290, 291, 292, 293, 30, 101, 102, 103, 104, 406, 562, 563, 564, 530, 531, 532, 533, 534, 535, 550, 551, 555, 556, 557, 558, 559, 560, 561] (by decide +kernel) (by decide +kernel)) (goodIn_sub (fun _ h => List.mem_append_left _ (List.mem_append_right _ h)) (by decide +kernel))
set_option maxRecDepth 20000 in
theorem gL_law_L_share : GoodIn wsL_law (va_wsS RL 127 yL_share wsL_share) := goodIn_app (goodIn_of _ (by decide +kernel)) ggL_law_L_share
set_option maxRecDepth 20000 in
theorem ggL_law_X5_share : GoodIn wsL_law wsX5_share := goodIn_r _ [410, 250, 251, 252, 5, 253, 79, 215, 117, 118, 119, 120, 328, 329, 330, 331, 332, 333, 334, 335, 51, 411, 412, 413, 414, 43, 49, 536, 537, 538, 539, 540, 541, 542, 543, 544, 545, 546, 547, 548, 549] (by decide +kernel) (by decide +kernel)
set_option maxRecDepth 20000 in
theorem gL_law_X5_share : GoodIn wsL_law (wsV RL 129 RX5 yX5_share wsX5_share) := goodIn_app (goodIn_of _ (by decide +kernel)) ggL_law_X5_share
set_option maxRecDepth 20000 in
theorem ggL_law_L_of : GoodIn wsL_law wsL_of := goodIn_ca (goodIn_r _ [417, 85, 418, 419, 420, 2, 421, 95, 96, 422, 225, 227, 224, 423, 228, 229, 230, 231, 16, 562, 563, 564, 550, 551, 555, 556, 557, 558, 559, 560, 561, 530, 531, 532, 533, 534, 535] (by decide +kernel) (by decide +kernel)) (goodIn_sub (fun _ h => List.mem_append_left _ (List.mem_append_right _ h)) (by decide +kernel))
set_option maxRecDepth 20000 in
theorem gL_law_L_of : GoodIn wsL_law (va_wsS RL 130 yL_of wsL_of) := goodIn_app (goodIn_of _ (by decide +kernel)) ggL_law_L_of
set_option maxRecDepth 20000 in
theorem ggL_law_X5_of : GoodIn wsL_law wsX5_of := goodIn_r _ [427, 49, 50, 250, 251, 252, 5, 253, 79, 215, 117, 118, 119, 120, 345, 346, 347, 348, 44, 536, 537, 538, 539, 540, 541, 542, 543, 544, 545, 546, 547, 548, 549] (by decide +kernel) (by decide +kernel)
set_option maxRecDepth 20000 in
theorem gL_law_X5_of : GoodIn wsL_law (wsV RL 132 RX5 yX5_of wsX5_of) := goodIn_app (goodIn_of _ (by decide +kernel)) ggL_law_X5_of
set_option maxRecDepth 20000 in
theorem ggL_law_L_arrives : GoodIn wsL_law wsL_arrives := goodIn_ca (goodIn_ca (goodIn_r _ [430, 85, 219, 431, 432, 433, 2, 434, 224, 225, 435, 436, 437, 438, 20, 228, 229, 230, 231, 95, 96, 16, 101, 102, 103, 104, 283, 284, 285, 235, 236, 294, 295, 296, 19, 297, 31, 298, 299, 300, 287, 288, 289, 290, 291, 292, 293, 30, 439, 440, 441, 442, 443, 444, 445, 446, 301, 302, 303, 304, 270, 271, 305, 306, 307, 308, 309, 310, 311, 312, 313, 314, 315, 316, 317, 318, 319, 320, 447, 448, 449, 450, 562, 563, 564, 530, 531, 532, 533, 534, 535, 555, 556, 557, 558, 559, 560, 561, 550, 551] (by decide +kernel) (by decide +kernel)) (goodIn_sub (fun _ h => List.mem_append_left _ (List.mem_append_right _ h)) (by decide +kernel))) (goodIn_sub (fun _ h => List.mem_append_right _ h) (by decide +kernel))
set_option maxRecDepth 20000 in
theorem gL_law_L_arrives : GoodIn wsL_law (va_wsS RL 133 yL_arrives wsL_arrives) := goodIn_app (goodIn_of _ (by decide +kernel)) ggL_law_L_arrives
set_option maxRecDepth 20000 in
theorem ggL_law_X5_arrives : GoodIn wsL_law wsX5_arrives := goodIn_r _ [454, 250, 251, 252, 5, 253, 79, 215, 117, 118, 119, 120, 411, 412, 413, 414, 43, 49, 325, 326, 327, 336, 337, 338, 339, 50, 51, 332, 333, 334, 335, 328, 329, 330, 331, 340, 341, 342, 343, 344, 345, 346, 347, 348, 44, 349, 350, 351, 352, 353, 354, 355, 356, 47, 357, 358, 359, 360, 361, 362, 363, 364, 365, 366, 52, 45, 536, 537, 538, 539, 540, 541, 542, 543, 544, 545, 546, 547, 548, 549] (by decide +kernel) (by decide +kernel)
set_option maxRecDepth 20000 in
theorem gL_law_X5_arrives : GoodIn wsL_law (wsV RL 135 RX5 yX5_arrives wsX5_arrives) := goodIn_app (goodIn_of _ (by decide +kernel)) ggL_law_X5_arrives
set_option maxRecDepth 20000 in
theorem ggL_law_L_returns : GoodIn wsL_law wsL_returns := goodIn_ca (goodIn_ca (goodIn_r _ [457, 85, 219, 458, 459, 460, 2, 461, 225, 224, 435, 436, 437, 438, 20, 228, 229, 230, 231, 95, 96, 16, 283, 284, 285, 235, 236, 294, 295, 296, 19, 297, 31, 298, 299, 300, 287, 288, 289, 290, 291, 292, 293, 30, 439, 440, 441, 442, 443, 444, 445, 446, 301, 302, 303, 304, 270, 271, 305, 306, 307, 308, 309, 310, 311, 312, 313, 314, 315, 316, 317, 318, 319, 320, 462, 463, 464, 465, 562, 563, 564, 530, 531, 532, 533, 534, 535, 550, 551, 555, 556, 557, 558, 559, 560, 561] (by decide +kernel) (by decide +kernel)) (goodIn_sub (fun _ h => List.mem_append_left _ (List.mem_append_right _ h)) (by decide +kernel))) (goodIn_sub (fun _ h => List.mem_append_right _ h) (by decide +kernel))
set_option maxRecDepth 20000 in
theorem gL_law_L_returns : GoodIn wsL_law (va_wsS RL 136 yL_returns wsL_returns) := goodIn_app (goodIn_of _ (by decide +kernel)) ggL_law_L_returns
set_option maxRecDepth 20000 in
theorem ggL_law_X5_returns : GoodIn wsL_law wsX5_returns := goodIn_r _ [469, 250, 251, 252, 5, 253, 79, 215, 117, 118, 119, 120, 325, 326, 327, 328, 329, 330, 331, 332, 333, 334, 335, 51, 336, 337, 338, 339, 49, 50, 340, 341, 342, 343, 344, 345, 346, 347, 348, 44, 349, 350, 351, 352, 353, 354, 355, 356, 43, 47, 357, 358, 359, 360, 361, 362, 363, 364, 365, 366, 52, 45, 470, 471, 472, 473, 536, 537, 538, 539, 540, 541, 542, 543, 544, 545, 546, 547, 548, 549] (by decide +kernel) (by decide +kernel)
set_option maxRecDepth 20000 in
theorem gL_law_X5_returns : GoodIn wsL_law (wsV RL 138 RX5 yX5_returns wsX5_returns) := goodIn_app (goodIn_of _ (by decide +kernel)) ggL_law_X5_returns
set_option maxRecDepth 20000 in
theorem ggL_law_L_best : GoodIn wsL_law wsL_best := goodIn_ca (goodIn_ca (goodIn_r _ [476, 85, 219, 477, 478, 479, 2, 480, 225, 224, 435, 436, 437, 438, 20, 423, 228, 229, 230, 231, 95, 96, 16, 283, 284, 285, 235, 236, 286, 287, 288, 19, 289, 290, 291, 292, 293, 30, 294, 295, 296, 297, 31, 298, 299, 300, 439, 440, 441, 442, 443, 444, 445, 446, 481, 482, 483, 484, 270, 309, 301, 302, 303, 304, 271, 305, 306, 307, 308, 310, 311, 312, 313, 314, 315, 316, 317, 318, 319, 320, 562, 563, 564, 530, 531, 532, 533, 534, 535, 555, 556, 557, 558, 559, 560, 561, 550, 551] (by decide +kernel) (by decide +kernel)) (goodIn_sub (fun _ h => List.mem_append_left _ (List.mem_append_right _ h)) (by decide +kernel))) (goodIn_sub (fun _ h => List.mem_append_right _ h) (by decide +kernel))
set_option maxRecDepth 20000 in
theorem gL_law_L_best : GoodIn wsL_law (va_wsS RL 139 yL_best wsL_best) := goodIn_app (goodIn_of _ (by decide +kernel)) ggL_law_L_best
set_option maxRecDepth 20000 in
theorem ggL_law_X5_best : GoodIn wsL_law wsX5_best := goodIn_r _ [488, 250, 251, 252, 5, 253, 79, 215, 117, 118, 119, 120, 325, 326, 327, 328, 329, 330, 331, 332, 333, 334, 335, 51, 336, 337, 338, 339, 49, 50, 489, 490, 491, 492, 43, 47, 340, 341, 342, 343, 344, 345, 346, 347, 348, 44, 349, 350, 351, 352, 353, 354, 355, 356, 357, 358, 359, 360, 361, 362, 363, 364, 365, 366, 52, 45, 536, 537, 538, 539, 540, 541, 542, 543, 544, 545, 546, 547, 548, 549] (by decide +kernel) (by decide +kernel)
set_option maxRecDepth 20000 in
theorem gL_law_X5_best : GoodIn wsL_law (wsV RL 141 RX5 yX5_best wsX5_best) := goodIn_app (goodIn_of _ (by decide +kernel)) ggL_law_X5_best
set_option maxRecDepth 20000 in
theorem ggL_law_L_mean : GoodIn wsL_law wsL_mean := goodIn_ca (goodIn_ca (goodIn_r _ [495, 85, 219, 496, 497, 498, 2, 499, 224, 225, 500, 20, 501, 423, 502, 228, 229, 230, 231, 95, 96, 16, 101, 102, 103, 104, 283, 284, 285, 235, 236, 294, 295, 296, 19, 297, 31, 298, 299, 300, 287, 288, 289, 290, 291, 292, 293, 30, 439, 440, 441, 442, 443, 444, 445, 446, 406, 301, 302, 303, 304, 270, 271, 305, 306, 307, 308, 309, 310, 311, 312, 313, 314, 315, 316, 317, 318, 319, 320, 562, 563, 564, 530, 531, 532, 533, 534, 535, 555, 556, 557, 558, 559, 560, 561, 550, 551] (by decide +kernel) (by decide +kernel)) (goodIn_sub (fun _ h => List.mem_append_left _ (List.mem_append_right _ h)) (by decide +kernel))) (goodIn_sub (fun _ h => List.mem_append_right _ h) (by decide +kernel))
set_option maxRecDepth 20000 in
theorem gL_law_L_mean : GoodIn wsL_law (va_wsS RL 142 yL_mean wsL_mean) := goodIn_app (goodIn_of _ (by decide +kernel)) ggL_law_L_mean
set_option maxRecDepth 20000 in
theorem ggL_law_X5_mean : GoodIn wsL_law wsX5_mean := goodIn_r _ [506, 507, 344, 250, 251, 252, 5, 253, 79, 215, 117, 118, 119, 120, 411, 412, 413, 414, 43, 49, 325, 326, 327, 336, 337, 338, 339, 50, 51, 332, 333, 334, 335, 340, 341, 342, 343, 328, 329, 330, 331, 345, 346, 347, 348, 44, 349, 350, 351, 352, 353, 354, 355, 356, 47, 357, 358, 359, 360, 361, 362, 363, 364, 365, 366, 52, 45, 536, 537, 538, 539, 540, 541, 542, 543, 544, 545, 546, 547, 548, 549] (by decide +kernel) (by decide +kernel)
set_option maxRecDepth 20000 in
theorem gL_law_X5_mean : GoodIn wsL_law (wsV RL 144 RX5 yX5_mean wsX5_mean) := goodIn_app (goodIn_of _ (by decide +kernel)) ggL_law_X5_mean
set_option maxRecDepth 20000 in
theorem ggL_law_L_copy : GoodIn wsL_law wsL_copy := goodIn_ca (goodIn_ca (goodIn_r _ [510, 85, 219, 511, 512, 513, 2, 514, 235, 236, 422, 225, 228, 229, 230, 231, 95, 96, 16, 439, 440, 441, 19, 442, 30, 443, 444, 445, 446, 31, 562, 563, 564, 530, 531, 532, 533, 534, 535, 550, 551] (by decide +kernel) (by decide +kernel)) (goodIn_sub (fun _ h => List.mem_append_right _ h) (by decide +kernel))) (goodIn_sub (fun _ h => List.mem_append_left _ (List.mem_append_right _ h)) (by decide +kernel))
set_option maxRecDepth 20000 in
theorem gL_law_L_copy : GoodIn wsL_law (va_wsS RL 145 yL_copy wsL_copy) := goodIn_app (goodIn_of _ (by decide +kernel)) ggL_law_L_copy
set_option maxRecDepth 20000 in
theorem ggL_law_X5_copy : GoodIn wsL_law wsX5_copy := goodIn_r _ [518, 215, 49, 250, 251, 252, 5, 253, 79, 117, 118, 119, 120, 336, 337, 338, 339, 50, 51, 536, 537, 538, 539, 540, 541, 542, 543, 544, 545, 546, 547, 548, 549] (by decide +kernel) (by decide +kernel)
set_option maxRecDepth 20000 in
theorem gL_law_X5_copy : GoodIn wsL_law (wsV RL 147 RX5 yX5_copy wsX5_copy) := goodIn_app (goodIn_of _ (by decide +kernel)) ggL_law_X5_copy
set_option maxRecDepth 20000 in
theorem ggL_law_L_count : GoodIn wsL_law wsL_count := goodIn_ca (goodIn_r _ [521, 85, 522, 523, 524, 2, 525, 95, 96, 25, 26, 530, 531, 532, 533, 534, 535] (by decide +kernel) (by decide +kernel)) (goodIn_sub (fun _ h => List.mem_append_left _ (List.mem_append_right _ h)) (by decide +kernel))
set_option maxRecDepth 20000 in
theorem gL_law_L_count : GoodIn wsL_law (va_wsS RL 148 yL_count wsL_count) := goodIn_app (goodIn_of _ (by decide +kernel)) ggL_law_L_count
set_option maxRecDepth 20000 in
theorem ggL_law_X5_count : GoodIn wsL_law wsX5_count := goodIn_r _ [529, 79, 80, 215, 117, 118, 119, 5, 120, 536, 537, 538, 539, 540, 541, 542, 543, 544, 545, 546, 547, 548, 549] (by decide +kernel) (by decide +kernel)
set_option maxRecDepth 20000 in
theorem gL_law_X5_count : GoodIn wsL_law (wsV RL 150 RX5 yX5_count wsX5_count) := goodIn_app (goodIn_of _ (by decide +kernel)) ggL_law_X5_count
