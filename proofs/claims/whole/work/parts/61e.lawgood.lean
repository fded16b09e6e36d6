set_option maxRecDepth 20000 in
theorem ggL_law_X3_init : GoodIn wsL_law wsX3_init := goodIn_r _ [9, 10, 11, 12, 13, 14, 15, 16, 17, 18, 2, 19, 20, 21, 543, 544, 545, 546] (by decide +kernel) (by decide +kernel)
set_option maxRecDepth 20000 in
theorem gL_law_X3_init : GoodIn wsL_law (wsX3_init) := ggL_law_X3_init
set_option maxRecDepth 20000 in
theorem ggL_law_X4_init : GoodIn wsL_law wsX4_init := goodIn_r _ [24, 25, 11, 12, 13, 26, 27, 28, 29, 30, 31, 547, 548, 549, 550, 551, 552, 553, 554, 555, 556, 557, 558, 559, 560] (by decide +kernel) (by decide +kernel)
set_option maxRecDepth 20000 in
theorem gL_law_X4_init : GoodIn wsL_law (wsX4_init) := ggL_law_X4_init
set_option maxRecDepth 20000 in
theorem ggL_law_X3_field : GoodIn wsL_law wsX3_field := goodIn_r _ [35, 36, 37, 38, 39, 40, 41, 42, 43, 44, 45, 46, 47, 48, 49, 2, 50, 51, 52, 53, 54, 55, 56, 57, 58, 59, 11, 12, 60, 61, 62, 63, 64, 65, 66, 67, 68, 69, 70, 71, 72, 73, 74, 75, 76, 77, 78, 79, 80, 81, 82, 83, 84, 85, 86, 87, 88, 89, 90, 91, 92, 93, 94, 95, 96, 97, 98, 99, 100, 101, 102, 103, 104, 105, 106, 107, 108, 109, 110, 111, 112, 113, 114, 115, 116, 117, 118, 119, 120, 121, 122, 123, 124, 125, 126, 127, 128, 129, 130, 131, 132, 133, 134, 135, 136, 137, 138, 139, 140, 141, 142, 16, 17, 18, 19, 14, 20, 15, 21, 561, 562, 563, 564, 565, 566, 567, 543, 544, 545, 546, 568, 569, 570] (by decide +kernel) (by decide +kernel)
set_option maxRecDepth 20000 in
theorem gL_law_X3_field : GoodIn wsL_law (wsV RL 13 RX3 yX3_field wsX3_field) := goodIn_app (goodIn_of _ (by decide +kernel)) ggL_law_X3_field
set_option maxRecDepth 20000 in
theorem ggL_law_X4_field : GoodIn wsL_law wsX4_field := goodIn_r _ [146, 147, 148, 149, 29, 30, 31, 150, 151, 5, 152, 153, 547, 548, 549, 550, 551, 552, 553, 554, 555, 556, 557, 558, 559, 560] (by decide +kernel) (by decide +kernel)
set_option maxRecDepth 20000 in
theorem gL_law_X4_field : GoodIn wsL_law (wsV RL 17 RX4 yX4_field wsX4_field) := goodIn_app (goodIn_of _ (by decide +kernel)) ggL_law_X4_field
set_option maxRecDepth 20000 in
theorem ggL_law_X3_told : GoodIn wsL_law wsX3_told := goodIn_r _ [157, 42, 158, 159, 47, 543, 544, 545, 546, 561, 562, 563, 564, 565, 566] (by decide +kernel) (by decide +kernel)
set_option maxRecDepth 20000 in
theorem gL_law_X3_told : GoodIn wsL_law (wsV RL 18 RX3 yX3_told wsX3_told) := goodIn_app (goodIn_of _ (by decide +kernel)) ggL_law_X3_told
set_option maxRecDepth 20000 in
theorem ggL_law_X4_told : GoodIn wsL_law wsX4_told := goodIn_r _ [163, 153, 147, 148, 149, 164, 165, 5, 166, 547, 548, 549, 550, 551, 552, 553, 554, 555, 556, 557, 558, 559, 560] (by decide +kernel) (by decide +kernel)
set_option maxRecDepth 20000 in
theorem gL_law_X4_told : GoodIn wsL_law (wsV RL 22 RX4 yX4_told wsX4_told) := goodIn_app (goodIn_of _ (by decide +kernel)) ggL_law_X4_told
set_option maxRecDepth 20000 in
theorem ggL_law_X3_root : GoodIn wsL_law wsX3_root := goodIn_r _ [170, 42, 171, 172, 173, 174, 41, 175, 60, 176, 91, 92, 93, 94, 95, 96, 97, 87, 88, 89, 543, 544, 545, 546, 561, 562, 563, 564, 565, 566, 567] (by decide +kernel) (by decide +kernel)
set_option maxRecDepth 20000 in
theorem gL_law_X3_root : GoodIn wsL_law (wsV RL 23 RX3 yX3_root wsX3_root) := goodIn_app (goodIn_of _ (by decide +kernel)) ggL_law_X3_root
set_option maxRecDepth 20000 in
theorem ggL_law_X4_root : GoodIn wsL_law wsX4_root := goodIn_r _ [180, 147, 164, 165, 5, 166, 181, 182, 183, 184, 185, 186, 187, 188, 189, 190, 191, 192, 193, 194, 547, 548, 549, 550, 551, 552, 553, 554, 555, 556, 557, 558, 559, 560] (by decide +kernel) (by decide +kernel)
set_option maxRecDepth 20000 in
theorem gL_law_X4_root : GoodIn wsL_law (wsV RL 26 RX4 yX4_root wsX4_root) := goodIn_app (goodIn_of _ (by decide +kernel)) ggL_law_X4_root
set_option maxRecDepth 20000 in
theorem ggL_law_X3_point : GoodIn wsL_law wsX3_point := goodIn_r _ [198, 42, 171, 14, 199, 200, 2, 201, 172, 173, 174, 41, 175, 60, 202, 203, 204, 38, 205, 65, 86, 87, 88, 89, 82, 83, 84, 85, 67, 206, 98, 99, 543, 544, 545, 546, 561, 562, 563, 564, 565, 566, 567] (by decide +kernel) (by decide +kernel)
set_option maxRecDepth 20000 in
theorem gL_law_X3_point : GoodIn wsL_law (wsV RL 27 RX3 yX3_point wsX3_point) := goodIn_app (goodIn_of _ (by decide +kernel)) ggL_law_X3_point
set_option maxRecDepth 20000 in
theorem ggL_law_X4_point : GoodIn wsL_law wsX4_point := goodIn_r _ [210, 147, 211, 212, 213, 214, 215, 5, 216, 217, 164, 165, 166, 218, 219, 220, 221, 222, 223, 224, 225, 26, 27, 29, 547, 548, 549, 550, 551, 552, 553, 554, 555, 556, 557, 558, 559, 560] (by decide +kernel) (by decide +kernel)
set_option maxRecDepth 20000 in
theorem gL_law_X4_point : GoodIn wsL_law (wsV RL 31 RX4 yX4_point wsX4_point) := goodIn_app (goodIn_of _ (by decide +kernel)) ggL_law_X4_point
set_option maxRecDepth 20000 in
theorem ggL_law_X3_nowhere : GoodIn wsL_law wsX3_nowhere := goodIn_r _ [229, 42, 14, 20, 199, 200, 2, 201, 543, 544, 545, 546] (by decide +kernel) (by decide +kernel)
set_option maxRecDepth 20000 in
theorem gL_law_X3_nowhere : GoodIn wsL_law (wsV RL 32 RX3 yX3_nowhere wsX3_nowhere) := goodIn_app (goodIn_of _ (by decide +kernel)) ggL_law_X3_nowhere
set_option maxRecDepth 20000 in
theorem ggL_law_X4_nowhere : GoodIn wsL_law wsX4_nowhere := goodIn_r _ [233, 147, 29, 214, 215, 5, 216, 217, 164, 165, 166, 547, 548, 549, 550, 551, 552, 553, 554, 555, 556, 557, 558, 559, 560] (by decide +kernel) (by decide +kernel)
set_option maxRecDepth 20000 in
theorem gL_law_X4_nowhere : GoodIn wsL_law (wsV RL 35 RX4 yX4_nowhere wsX4_nowhere) := goodIn_app (goodIn_of _ (by decide +kernel)) ggL_law_X4_nowhere
set_option maxRecDepth 20000 in
theorem ggL_law_X3_turn : GoodIn wsL_law wsX3_turn := goodIn_r _ [237, 42, 14, 238, 199, 200, 2, 201, 239, 72, 73, 38, 74, 75, 65, 69, 76, 67, 77, 78, 79, 80, 81, 82, 83, 84, 85, 86, 87, 88, 41, 89, 60, 90, 91, 92, 93, 94, 95, 96, 97, 98, 99, 100, 101, 102, 103, 104, 105, 106, 107, 108, 109, 110, 111, 112, 113, 114, 115, 116, 117, 118, 119, 120, 121, 122, 123, 124, 125, 126, 127, 128, 129, 130, 131, 132, 133, 543, 544, 545, 546, 561, 562, 563, 564, 565, 566, 567] (by decide +kernel) (by decide +kernel)
set_option maxRecDepth 20000 in
theorem gL_law_X3_turn : GoodIn wsL_law (wsV RL 38 RX3 yX3_turn wsX3_turn) := goodIn_app (goodIn_of _ (by decide +kernel)) ggL_law_X3_turn
set_option maxRecDepth 20000 in
theorem ggL_law_X4_turn : GoodIn wsL_law wsX4_turn := goodIn_r _ [243, 147, 214, 215, 5, 216, 217, 164, 165, 166, 244, 245, 246, 247, 153, 186, 211, 212, 213, 149, 218, 219, 220, 221, 181, 182, 183, 184, 185, 187, 188, 189, 190, 191, 192, 193, 194, 248, 249, 250, 251, 252, 253, 254, 255, 256, 257, 258, 259, 260, 261, 262, 263, 264, 222, 223, 224, 225, 26, 27, 29, 547, 548, 549, 550, 551, 552, 553, 554, 555, 556, 557, 558, 559, 560] (by decide +kernel) (by decide +kernel)
set_option maxRecDepth 20000 in
theorem gL_law_X4_turn : GoodIn wsL_law (wsV RL 42 RX4 yX4_turn wsX4_turn) := goodIn_app (goodIn_of _ (by decide +kernel)) ggL_law_X4_turn
set_option maxRecDepth 20000 in
theorem ggL_law_X3_add : GoodIn wsL_law wsX3_add := goodIn_r _ [268, 42, 14, 20, 199, 200, 2, 201, 269, 109, 110, 38, 111, 76, 65, 112, 113, 114, 115, 67, 116, 117, 118, 119, 120, 121, 122, 123, 124, 125, 81, 86, 87, 88, 41, 89, 60, 126, 127, 128, 129, 130, 131, 132, 133, 98, 99, 543, 544, 545, 546, 561, 562, 563, 564, 565, 566, 567] (by decide +kernel) (by decide +kernel)
set_option maxRecDepth 20000 in
theorem gL_law_X3_add : GoodIn wsL_law (wsV RL 43 RX3 yX3_add wsX3_add) := goodIn_app (goodIn_of _ (by decide +kernel)) ggL_law_X3_add
set_option maxRecDepth 20000 in
theorem ggL_law_X4_add : GoodIn wsL_law wsX4_add := goodIn_r _ [273, 147, 26, 27, 29, 213, 214, 215, 5, 216, 217, 164, 165, 166, 274, 275, 276, 277, 211, 212, 252, 253, 254, 255, 256, 257, 258, 259, 260, 153, 261, 262, 263, 264, 187, 188, 189, 190, 191, 192, 193, 194, 222, 223, 224, 225, 547, 548, 549, 550, 551, 552, 553, 554, 555, 556, 557, 558, 559, 560] (by decide +kernel) (by decide +kernel)
set_option maxRecDepth 20000 in
theorem gL_law_X4_add : GoodIn wsL_law (wsV RL 46 RX4 yX4_add wsX4_add) := goodIn_app (goodIn_of _ (by decide +kernel)) ggL_law_X4_add
set_option maxRecDepth 20000 in
theorem ggL_law_X3_times : GoodIn wsL_law wsX3_times := goodIn_r _ [281, 42, 14, 20, 199, 200, 2, 201, 282, 101, 102, 38, 103, 76, 67, 81, 104, 105, 106, 107, 108, 109, 110, 111, 65, 112, 113, 114, 115, 116, 117, 118, 119, 120, 121, 122, 123, 124, 125, 86, 87, 88, 41, 89, 60, 126, 127, 128, 129, 130, 131, 132, 133, 98, 99, 543, 544, 545, 546, 561, 562, 563, 564, 565, 566, 567] (by decide +kernel) (by decide +kernel)
set_option maxRecDepth 20000 in
theorem gL_law_X3_times : GoodIn wsL_law (wsV RL 47 RX3 yX3_times wsX3_times) := goodIn_app (goodIn_of _ (by decide +kernel)) ggL_law_X3_times
set_option maxRecDepth 20000 in
theorem ggL_law_X4_times : GoodIn wsL_law wsX4_times := goodIn_r _ [286, 147, 212, 213, 214, 215, 5, 216, 217, 164, 165, 166, 274, 275, 276, 277, 26, 211, 27, 29, 248, 249, 250, 251, 252, 253, 254, 255, 256, 257, 258, 259, 260, 153, 261, 262, 263, 264, 187, 188, 189, 190, 191, 192, 193, 194, 222, 223, 224, 225, 547, 548, 549, 550, 551, 552, 553, 554, 555, 556, 557, 558, 559, 560] (by decide +kernel) (by decide +kernel)
set_option maxRecDepth 20000 in
theorem gL_law_X4_times : GoodIn wsL_law (wsV RL 51 RX4 yX4_times wsX4_times) := goodIn_app (goodIn_of _ (by decide +kernel)) ggL_law_X4_times
set_option maxRecDepth 20000 in
theorem ggL_law_X3_at : GoodIn wsL_law wsX3_at := goodIn_r _ [290, 42, 14, 20, 199, 200, 2, 201, 291, 292, 293, 294, 295, 296, 297, 116, 117, 298, 118, 119, 120, 543, 544, 545, 546] (by decide +kernel) (by decide +kernel)
set_option maxRecDepth 20000 in
theorem gL_law_X3_at : GoodIn wsL_law (wsV RL 52 RX3 yX3_at wsX3_at) := goodIn_app (goodIn_of _ (by decide +kernel)) ggL_law_X3_at
set_option maxRecDepth 20000 in
theorem ggL_law_X4_at : GoodIn wsL_law wsX4_at := goodIn_r _ [302, 147, 29, 26, 27, 214, 215, 5, 216, 217, 164, 165, 166, 547, 548, 549, 550, 551, 552, 553, 554, 555, 556, 557, 558, 559, 560] (by decide +kernel) (by decide +kernel)
set_option maxRecDepth 20000 in
theorem gL_law_X4_at : GoodIn wsL_law (wsV RL 55 RX4 yX4_at wsX4_at) := goodIn_app (goodIn_of _ (by decide +kernel)) ggL_law_X4_at
set_option maxRecDepth 20000 in
theorem ggL_law_X3_order : GoodIn wsL_law wsX3_order := goodIn_r _ [306, 42, 14, 199, 200, 2, 201, 307, 308, 309, 38, 310, 67, 81, 311, 312, 313, 314, 76, 100, 101, 102, 103, 104, 105, 106, 107, 108, 109, 110, 111, 65, 112, 113, 114, 115, 116, 117, 118, 119, 120, 121, 122, 123, 124, 125, 86, 87, 88, 41, 89, 60, 126, 127, 128, 129, 130, 131, 132, 133, 98, 99, 543, 544, 545, 546, 561, 562, 563, 564, 565, 566, 567] (by decide +kernel) (by decide +kernel)
set_option maxRecDepth 20000 in
theorem gL_law_X3_order : GoodIn wsL_law (wsV RL 56 RX3 yX3_order wsX3_order) := goodIn_app (goodIn_of _ (by decide +kernel)) ggL_law_X3_order
set_option maxRecDepth 20000 in
theorem ggL_law_X4_order : GoodIn wsL_law wsX4_order := goodIn_r _ [318, 147, 153, 213, 214, 215, 5, 216, 217, 164, 165, 166, 274, 275, 276, 277, 26, 211, 27, 212, 29, 248, 249, 250, 251, 252, 253, 254, 255, 256, 257, 258, 259, 260, 261, 262, 263, 264, 187, 188, 189, 190, 191, 192, 193, 194, 547, 548, 549, 550, 551, 552, 553, 554, 555, 556, 557, 558, 559, 560] (by decide +kernel) (by decide +kernel)
set_option maxRecDepth 20000 in
theorem gL_law_X4_order : GoodIn wsL_law (wsV RL 59 RX4 yX4_order wsX4_order) := goodIn_app (goodIn_of _ (by decide +kernel)) ggL_law_X4_order
set_option maxRecDepth 20000 in
theorem ggL_law_X3_write : GoodIn wsL_law wsX3_write := goodIn_r _ [322, 42, 323, 324, 14, 199, 200, 2, 201, 325, 326, 327, 20, 54, 297, 116, 117, 298, 118, 119, 120, 543, 544, 545, 546] (by decide +kernel) (by decide +kernel)
set_option maxRecDepth 20000 in
theorem gL_law_X3_write : GoodIn wsL_law (wsV RL 60 RX3 yX3_write wsX3_write) := goodIn_app (goodIn_of _ (by decide +kernel)) ggL_law_X3_write
set_option maxRecDepth 20000 in
theorem ggL_law_X4_write : GoodIn wsL_law wsX4_write := goodIn_r _ [331, 147, 332, 333, 214, 215, 5, 216, 217, 164, 165, 166, 334, 335, 336, 337, 29, 153, 26, 27, 186, 547, 548, 549, 550, 551, 552, 553, 554, 555, 556, 557, 558, 559, 560] (by decide +kernel) (by decide +kernel)
set_option maxRecDepth 20000 in
theorem gL_law_X4_write : GoodIn wsL_law (wsV RL 64 RX4 yX4_write wsX4_write) := goodIn_app (goodIn_of _ (by decide +kernel)) ggL_law_X4_write
set_option maxRecDepth 20000 in
theorem ggL_law_X3_read : GoodIn wsL_law wsX3_read := goodIn_r _ [341, 42, 324, 14, 199, 200, 2, 201, 342, 343, 344, 38, 345, 76, 81, 67, 346, 65, 82, 83, 84, 85, 86, 87, 88, 41, 89, 60, 90, 91, 92, 93, 94, 95, 96, 97, 98, 99, 543, 544, 545, 546, 561, 562, 563, 564, 565, 566, 567] (by decide +kernel) (by decide +kernel)
set_option maxRecDepth 20000 in
theorem gL_law_X3_read : GoodIn wsL_law (wsV RL 65 RX3 yX3_read wsX3_read) := goodIn_app (goodIn_of _ (by decide +kernel)) ggL_law_X3_read
set_option maxRecDepth 20000 in
theorem ggL_law_X4_read : GoodIn wsL_law wsX4_read := goodIn_r _ [350, 147, 186, 29, 153, 26, 27, 214, 215, 5, 216, 217, 164, 165, 166, 218, 219, 220, 221, 181, 182, 183, 184, 185, 187, 188, 189, 190, 191, 192, 193, 194, 547, 548, 549, 550, 551, 552, 553, 554, 555, 556, 557, 558, 559, 560] (by decide +kernel) (by decide +kernel)
set_option maxRecDepth 20000 in
theorem gL_law_X4_read : GoodIn wsL_law (wsV RL 68 RX4 yX4_read wsX4_read) := goodIn_app (goodIn_of _ (by decide +kernel)) ggL_law_X4_read
set_option maxRecDepth 20000 in
theorem ggL_law_X3_pair : GoodIn wsL_law wsX3_pair := goodIn_r _ [354, 46, 14, 15, 355, 356, 2, 357, 199, 200, 201, 358, 359, 360, 45, 361, 138, 142, 362, 363, 101, 102, 38, 103, 76, 67, 81, 104, 105, 106, 107, 108, 109, 110, 111, 65, 112, 113, 114, 115, 116, 117, 118, 119, 120, 121, 122, 123, 124, 125, 86, 87, 88, 41, 89, 60, 126, 127, 128, 129, 130, 131, 132, 133, 98, 99, 364, 365, 366, 367, 368, 140, 369, 370, 371, 372, 373, 374, 375, 376, 377, 378, 379, 380, 381, 382, 383, 384, 385, 386, 387, 388, 389, 390, 391, 392, 393, 394, 395, 396, 397, 398, 399, 400, 401, 402, 403, 404, 405, 406, 407, 408, 409, 410, 411, 543, 544, 545, 546, 568, 569, 570, 561, 562, 563, 564, 565, 566, 567] (by decide +kernel) (by decide +kernel)
set_option maxRecDepth 20000 in
theorem gL_law_X3_pair : GoodIn wsL_law (wsV RL 69 RX3 yX3_pair wsX3_pair) := goodIn_app (goodIn_of _ (by decide +kernel)) ggL_law_X3_pair
set_option maxRecDepth 20000 in
theorem ggL_law_X4_pair : GoodIn wsL_law wsX4_pair := goodIn_r _ [415, 147, 26, 27, 29, 30, 416, 31, 417, 418, 419, 420, 5, 421, 422, 164, 165, 166, 214, 215, 216, 217, 423, 424, 425, 426, 148, 213, 274, 275, 276, 277, 211, 212, 248, 249, 250, 251, 252, 253, 254, 255, 256, 257, 258, 259, 260, 153, 261, 262, 263, 264, 187, 188, 189, 190, 191, 192, 193, 194, 427, 428, 429, 430, 431, 432, 433, 434, 435, 436, 437, 438, 439, 440, 441, 442, 547, 548, 549, 550, 551, 552, 553, 554, 555, 556, 557, 558, 559, 560] (by decide +kernel) (by decide +kernel)
set_option maxRecDepth 20000 in
theorem gL_law_X4_pair : GoodIn wsL_law (wsV RL 72 RX4 yX4_pair wsX4_pair) := goodIn_app (goodIn_of _ (by decide +kernel)) ggL_law_X4_pair
set_option maxRecDepth 20000 in
theorem ggL_law_X3_multiply : GoodIn wsL_law wsX3_multiply := goodIn_r _ [446, 46, 15, 21, 355, 356, 2, 357, 447, 383, 384, 45, 385, 140, 116, 117, 118, 119, 120, 386, 105, 106, 107, 98, 99, 543, 544, 545, 546, 568, 569, 570] (by decide +kernel) (by decide +kernel)
set_option maxRecDepth 20000 in
theorem gL_law_X3_multiply : GoodIn wsL_law (wsV RL 73 RX3 yX3_multiply wsX3_multiply) := goodIn_app (goodIn_of _ (by decide +kernel)) ggL_law_X3_multiply
set_option maxRecDepth 20000 in
theorem ggL_law_X4_multiply : GoodIn wsL_law wsX4_multiply := goodIn_r _ [451, 147, 30, 416, 31, 417, 419, 420, 5, 421, 422, 164, 165, 166, 431, 432, 433, 434, 452, 453, 454, 455, 547, 548, 549, 550, 551, 552, 553, 554, 555, 556, 557, 558, 559, 560] (by decide +kernel) (by decide +kernel)
set_option maxRecDepth 20000 in
theorem gL_law_X4_multiply : GoodIn wsL_law (wsV RL 76 RX4 yX4_multiply wsX4_multiply) := goodIn_app (goodIn_of _ (by decide +kernel)) ggL_law_X4_multiply
set_option maxRecDepth 20000 in
theorem ggL_law_X3_power : GoodIn wsL_law wsX3_power := goodIn_r _ [459, 46, 15, 21, 355, 356, 2, 357, 460, 398, 399, 45, 400, 368, 401, 382, 383, 384, 385, 140, 116, 117, 118, 119, 120, 386, 105, 106, 107, 98, 99, 543, 544, 545, 546, 568, 569, 570] (by decide +kernel) (by decide +kernel)
set_option maxRecDepth 20000 in
theorem gL_law_X3_power : GoodIn wsL_law (wsV RL 77 RX3 yX3_power wsX3_power) := goodIn_app (goodIn_of _ (by decide +kernel)) ggL_law_X3_power
set_option maxRecDepth 20000 in
theorem ggL_law_X4_power : GoodIn wsL_law wsX4_power := goodIn_r _ [464, 147, 30, 416, 31, 417, 419, 420, 5, 421, 422, 164, 165, 166, 439, 440, 441, 442, 431, 432, 433, 434, 452, 453, 454, 455, 547, 548, 549, 550, 551, 552, 553, 554, 555, 556, 557, 558, 559, 560] (by decide +kernel) (by decide +kernel)
set_option maxRecDepth 20000 in
theorem gL_law_X4_power : GoodIn wsL_law (wsV RL 80 RX4 yX4_power wsX4_power) := goodIn_app (goodIn_of _ (by decide +kernel)) ggL_law_X4_power
set_option maxRecDepth 20000 in
theorem ggL_law_X3_value : GoodIn wsL_law wsX3_value := goodIn_r _ [468, 46, 15, 355, 356, 2, 357, 291, 292, 293, 294, 295, 296, 297, 116, 117, 298, 118, 119, 120, 543, 544, 545, 546] (by decide +kernel) (by decide +kernel)
set_option maxRecDepth 20000 in
theorem gL_law_X3_value : GoodIn wsL_law (wsV RL 81 RX3 yX3_value wsX3_value) := goodIn_app (goodIn_of _ (by decide +kernel)) ggL_law_X3_value
set_option maxRecDepth 20000 in
theorem ggL_law_X4_value : GoodIn wsL_law wsX4_value := goodIn_r _ [472, 147, 30, 31, 419, 420, 5, 421, 422, 164, 165, 166, 547, 548, 549, 550, 551, 552, 553, 554, 555, 556, 557, 558, 559, 560] (by decide +kernel) (by decide +kernel)
set_option maxRecDepth 20000 in
theorem gL_law_X4_value : GoodIn wsL_law (wsV RL 84 RX4 yX4_value wsX4_value) := goodIn_app (goodIn_of _ (by decide +kernel)) ggL_law_X4_value
set_option maxRecDepth 20000 in
theorem ggL_law_X3_open : GoodIn wsL_law wsX3_open := goodIn_r _ [476, 42, 14, 477, 199, 200, 2, 201, 478, 479, 480, 38, 481, 68, 282, 101, 102, 103, 76, 67, 81, 104, 105, 106, 107, 108, 109, 110, 111, 65, 112, 113, 114, 115, 116, 117, 118, 119, 120, 121, 122, 123, 124, 125, 86, 87, 88, 41, 89, 60, 126, 127, 128, 129, 130, 131, 132, 133, 98, 99, 543, 544, 545, 546, 561, 562, 563, 564, 565, 566, 567] (by decide +kernel) (by decide +kernel)
set_option maxRecDepth 20000 in
theorem gL_law_X3_open : GoodIn wsL_law (wsV RL 85 RX3 yX3_open wsX3_open) := goodIn_app (goodIn_of _ (by decide +kernel)) ggL_law_X3_open
set_option maxRecDepth 20000 in
theorem ggL_law_X4_open : GoodIn wsL_law wsX4_open := goodIn_r _ [485, 147, 148, 214, 215, 5, 216, 217, 164, 165, 166, 244, 245, 246, 247, 153, 186, 211, 212, 213, 149, 218, 219, 220, 221, 181, 182, 183, 184, 185, 187, 188, 189, 190, 191, 192, 193, 194, 248, 249, 250, 251, 252, 253, 254, 255, 256, 257, 258, 259, 260, 261, 262, 263, 264, 222, 223, 224, 225, 26, 27, 29, 547, 548, 549, 550, 551, 552, 553, 554, 555, 556, 557, 558, 559, 560] (by decide +kernel) (by decide +kernel)
set_option maxRecDepth 20000 in
theorem gL_law_X4_open : GoodIn wsL_law (wsV RL 88 RX4 yX4_open wsX4_open) := goodIn_app (goodIn_of _ (by decide +kernel)) ggL_law_X4_open
set_option maxRecDepth 20000 in
theorem ggL_law_X3_sign : GoodIn wsL_law wsX3_sign := goodIn_r _ [489, 42, 14, 199, 200, 2, 201, 478, 479, 480, 38, 481, 68, 239, 72, 73, 74, 75, 65, 69, 76, 67, 77, 78, 79, 80, 81, 82, 83, 84, 85, 86, 87, 88, 41, 89, 60, 90, 91, 92, 93, 94, 95, 96, 97, 98, 99, 100, 101, 102, 103, 104, 105, 106, 107, 108, 109, 110, 111, 112, 113, 114, 115, 116, 117, 118, 119, 120, 121, 122, 123, 124, 125, 126, 127, 128, 129, 130, 131, 132, 133, 282, 543, 544, 545, 546, 561, 562, 563, 564, 565, 566, 567] (by decide +kernel) (by decide +kernel)
set_option maxRecDepth 20000 in
theorem gL_law_X3_sign : GoodIn wsL_law (wsV RL 89 RX3 yX3_sign wsX3_sign) := goodIn_app (goodIn_of _ (by decide +kernel)) ggL_law_X3_sign
set_option maxRecDepth 20000 in
theorem ggL_law_X4_sign : GoodIn wsL_law wsX4_sign := goodIn_r _ [493, 147, 148, 214, 215, 5, 216, 217, 164, 165, 166, 244, 245, 246, 247, 153, 186, 211, 212, 213, 149, 218, 219, 220, 221, 181, 182, 183, 184, 185, 187, 188, 189, 190, 191, 192, 193, 194, 248, 249, 250, 251, 252, 253, 254, 255, 256, 257, 258, 259, 260, 261, 262, 263, 264, 222, 223, 224, 225, 26, 27, 29, 547, 548, 549, 550, 551, 552, 553, 554, 555, 556, 557, 558, 559, 560] (by decide +kernel) (by decide +kernel)
set_option maxRecDepth 20000 in
theorem gL_law_X4_sign : GoodIn wsL_law (wsV RL 92 RX4 yX4_sign wsX4_sign) := goodIn_app (goodIn_of _ (by decide +kernel)) ggL_law_X4_sign
set_option maxRecDepth 20000 in
theorem ggL_law_X3_holds : GoodIn wsL_law wsX3_holds := goodIn_r _ [497, 46, 14, 199, 200, 2, 201, 498, 499, 500, 45, 501, 368, 138, 502, 503, 359, 360, 361, 142, 362, 363, 101, 102, 38, 103, 76, 67, 81, 104, 105, 106, 107, 108, 109, 110, 111, 65, 112, 113, 114, 115, 116, 117, 118, 119, 120, 121, 122, 123, 124, 125, 86, 87, 88, 41, 89, 60, 126, 127, 128, 129, 130, 131, 132, 133, 98, 99, 504, 505, 506, 507, 508, 72, 73, 74, 75, 69, 77, 78, 79, 80, 82, 83, 84, 85, 90, 91, 92, 93, 94, 95, 96, 97, 100, 509, 365, 366, 367, 140, 369, 370, 371, 372, 373, 374, 375, 376, 377, 378, 379, 380, 381, 382, 383, 384, 385, 386, 387, 388, 389, 390, 391, 392, 393, 394, 395, 396, 397, 398, 399, 400, 401, 543, 544, 545, 546, 568, 569, 570, 561, 562, 563, 564, 565, 566, 567] (by decide +kernel) (by decide +kernel)
set_option maxRecDepth 20000 in
theorem gL_law_X3_holds : GoodIn wsL_law (wsV RL 93 RX3 yX3_holds wsX3_holds) := goodIn_app (goodIn_of _ (by decide +kernel)) ggL_law_X3_holds
set_option maxRecDepth 20000 in
theorem ggL_law_X4_holds : GoodIn wsL_law wsX4_holds := goodIn_r _ [513, 147, 29, 416, 417, 214, 215, 5, 216, 217, 164, 165, 166, 423, 424, 425, 426, 148, 213, 274, 275, 276, 277, 26, 211, 27, 212, 248, 249, 250, 251, 252, 253, 254, 255, 256, 257, 258, 259, 260, 153, 261, 262, 263, 264, 187, 188, 189, 190, 191, 192, 193, 194, 514, 515, 516, 517, 244, 245, 246, 247, 186, 149, 218, 219, 220, 221, 181, 182, 183, 184, 185, 427, 428, 429, 430, 418, 431, 432, 433, 434, 435, 436, 437, 438, 439, 440, 441, 442, 518, 519, 520, 521, 547, 548, 549, 550, 551, 552, 553, 554, 555, 556, 557, 558, 559, 560] (by decide +kernel) (by decide +kernel)
set_option maxRecDepth 20000 in
theorem gL_law_X4_holds : GoodIn wsL_law (wsV RL 97 RX4 yX4_holds wsX4_holds) := goodIn_app (goodIn_of _ (by decide +kernel)) ggL_law_X4_holds
set_option maxRecDepth 20000 in
theorem ggL_law_X3_holdsAll : GoodIn wsL_law wsX3_holdsAll := goodIn_r _ [525, 46, 14, 199, 200, 2, 201, 498, 499, 500, 45, 501, 368, 138, 502, 503, 359, 360, 361, 142, 362, 363, 101, 102, 38, 103, 76, 67, 81, 104, 105, 106, 107, 108, 109, 110, 111, 65, 112, 113, 114, 115, 116, 117, 118, 119, 120, 121, 122, 123, 124, 125, 86, 87, 88, 41, 89, 60, 126, 127, 128, 129, 130, 131, 132, 133, 98, 99, 504, 505, 506, 507, 508, 72, 73, 74, 75, 69, 77, 78, 79, 80, 82, 83, 84, 85, 90, 91, 92, 93, 94, 95, 96, 97, 100, 509, 365, 366, 367, 140, 369, 370, 371, 372, 373, 374, 375, 376, 377, 378, 379, 380, 381, 382, 383, 384, 385, 386, 387, 388, 389, 390, 391, 392, 393, 394, 395, 396, 397, 398, 399, 400, 401, 543, 544, 545, 546, 568, 569, 570, 561, 562, 563, 564, 565, 566, 567] (by decide +kernel) (by decide +kernel)
set_option maxRecDepth 20000 in
theorem gL_law_X3_holdsAll : GoodIn wsL_law (wsV RL 98 RX3 yX3_holdsAll wsX3_holdsAll) := goodIn_app (goodIn_of _ (by decide +kernel)) ggL_law_X3_holdsAll
set_option maxRecDepth 20000 in
theorem ggL_law_X4_holdsAll : GoodIn wsL_law wsX4_holdsAll := goodIn_r _ [529, 147, 530, 29, 416, 417, 214, 215, 5, 216, 217, 164, 165, 166, 423, 424, 425, 426, 148, 213, 274, 275, 276, 277, 26, 211, 27, 212, 248, 249, 250, 251, 252, 253, 254, 255, 256, 257, 258, 259, 260, 153, 261, 262, 263, 264, 187, 188, 189, 190, 191, 192, 193, 194, 518, 519, 520, 521, 244, 245, 246, 247, 186, 149, 218, 219, 220, 221, 181, 182, 183, 184, 185, 427, 428, 429, 430, 418, 431, 432, 433, 434, 435, 436, 437, 438, 439, 440, 441, 442, 514, 515, 516, 517, 547, 548, 549, 550, 551, 552, 553, 554, 555, 556, 557, 558, 559, 560] (by decide +kernel) (by decide +kernel)
set_option maxRecDepth 20000 in
theorem gL_law_X4_holdsAll : GoodIn wsL_law (wsV RL 102 RX4 yX4_holdsAll wsX4_holdsAll) := goodIn_app (goodIn_of _ (by decide +kernel)) ggL_law_X4_holdsAll
set_option maxRecDepth 20000 in
theorem ggL_law_X3_digest : GoodIn wsL_law wsX3_digest := goodIn_r _ [534, 42, 323, 535, 536, 14, 15, 325, 326, 2, 327, 20, 54, 297, 116, 117, 298, 118, 119, 120, 543, 544, 545, 546] (by decide +kernel) (by decide +kernel)
set_option maxRecDepth 20000 in
theorem gL_law_X3_digest : GoodIn wsL_law (wsV RL 103 RX3 yX3_digest wsX3_digest) := goodIn_app (goodIn_of _ (by decide +kernel)) ggL_law_X3_digest
set_option maxRecDepth 20000 in
theorem ggL_law_X4_digest : GoodIn wsL_law wsX4_digest := goodIn_r _ [540, 147, 332, 541, 542, 30, 31, 334, 335, 336, 5, 337, 29, 153, 26, 27, 186, 547, 548, 549, 550, 551, 552, 553, 554, 555, 556, 557, 558, 559, 560] (by decide +kernel) (by decide +kernel)
set_option maxRecDepth 20000 in
theorem gL_law_X4_digest : GoodIn wsL_law (wsV RL 107 RX4 yX4_digest wsX4_digest) := goodIn_app (goodIn_of _ (by decide +kernel)) ggL_law_X4_digest
