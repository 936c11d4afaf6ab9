set_option maxRecDepth 20000 in
theorem ggL_call_L_tryAppend : GoodIn wsL_call wsL_tryAppend := goodIn_ca (goodIn_ca (goodIn_r _ [4, 5, 6, 7, 8, 9, 10, 11, 12, 13, 14, 15, 16, 17, 18, 19, 20, 21, 22, 23, 24, 25, 26, 27, 28, 29, 30, 31, 32, 33, 34, 35, 36, 530, 531, 532, 533, 534, 535, 536, 537, 538, 539, 540, 541, 542, 543] (by decide +kernel) (by decide +kernel)) (goodIn_sub (fun _ h => List.mem_cons_of_mem _ (List.mem_append_left _ (List.mem_append_left _ (List.mem_append_right _ h)))) (by decide +kernel))) (goodIn_sub (fun _ h => List.mem_cons_of_mem _ (List.mem_append_left _ (List.mem_append_right _ h))) (by decide +kernel))
set_option maxRecDepth 20000 in
theorem gL_call_L_tryAppend : GoodIn wsL_call (va_wsS RL 101 yL_tryAppend wsL_tryAppend) := goodIn_app (goodIn_of _ (by decide +kernel)) ggL_call_L_tryAppend
set_option maxRecDepth 20000 in
theorem ggL_call_L_tryLoad : GoodIn wsL_call wsL_tryLoad := goodIn_ca (goodIn_r _ [39, 6, 8, 40, 41, 42, 12, 43, 14, 15, 16, 44, 45, 46, 47, 48, 49, 50, 51, 52, 53, 29, 54, 55, 31, 56, 57, 58, 59, 60, 61, 62, 63, 32, 64, 65, 66, 67, 68, 69, 70, 71, 72, 73, 74, 75, 76, 77, 78, 79, 80, 81, 82, 83, 84, 85, 86, 87, 88, 89, 90, 91, 92, 93, 94, 95, 96, 97, 98, 99, 100, 101, 102, 103, 104, 105, 106, 107, 108, 109, 110, 111, 112, 113, 114, 115, 116, 117, 118, 119, 120, 121, 122, 123, 124, 125, 126, 127, 128, 129, 130, 131, 132, 133, 134, 135, 136, 137, 138, 139, 140, 141, 142, 143, 144, 145, 146, 147, 24, 25, 148, 149, 150, 151, 152, 153, 154, 155, 156, 157, 158, 159, 160, 161, 162, 163, 164, 165, 166, 167, 168, 169, 170, 171, 172, 173, 174, 175, 176, 177, 178, 179, 180, 181, 182, 183, 184, 185, 186, 187, 188, 189, 190, 191, 192, 193, 194, 195, 196, 197, 198, 199, 200, 201, 202, 203, 204, 205, 206, 207, 208, 209, 210, 211, 212, 213, 214, 215, 216, 217, 218, 219, 220, 221, 222, 223, 224, 225, 226, 227, 228, 229, 230, 231, 530, 531, 532, 533, 534, 535, 536, 537, 538, 539, 540, 541, 542, 543, 544, 545, 546, 547, 548, 549, 550, 551, 552, 553, 554, 555, 556, 557, 558, 559, 560] (by decide +kernel) (by decide +kernel)) (goodIn_sub (fun _ h => List.mem_cons_of_mem _ (List.mem_append_left _ (List.mem_append_left _ (List.mem_append_right _ h)))) (by decide +kernel))
set_option maxRecDepth 20000 in
theorem gL_call_L_tryLoad : GoodIn wsL_call (va_wsS RL 107 yL_tryLoad wsL_tryLoad) := goodIn_app (goodIn_of _ (by decide +kernel)) ggL_call_L_tryLoad
set_option maxRecDepth 20000 in
theorem ggL_call_L_tryAbout : GoodIn wsL_call wsL_tryAbout := goodIn_ca (goodIn_r _ [234, 5, 7, 235, 236, 237, 12, 238, 21, 22, 47, 239, 240, 241, 242, 243, 244, 214, 215, 216, 217, 218, 219, 245, 246, 247, 103, 248, 115, 124, 188, 116, 122, 160, 161, 162, 163, 114, 213, 249, 250, 251, 252, 113, 253, 254, 255, 256, 189, 190, 191, 192, 193, 194, 195, 196, 197, 198, 199, 200, 112, 111, 201, 202, 203, 204, 123, 205, 206, 207, 208, 121, 209, 210, 211, 212, 257, 258, 259, 260, 261, 262, 263, 264, 530, 531, 532, 533, 534, 535, 536, 537, 549, 550, 551, 552, 553, 554, 555, 556, 557, 558, 559, 560] (by decide +kernel) (by decide +kernel)) (goodIn_sub (fun _ h => List.mem_cons_of_mem _ (List.mem_append_left _ (List.mem_append_right _ h))) (by decide +kernel))
set_option maxRecDepth 20000 in
theorem gL_call_L_tryAbout : GoodIn wsL_call (va_wsS RL 111 yL_tryAbout wsL_tryAbout) := goodIn_app (goodIn_of _ (by decide +kernel)) ggL_call_L_tryAbout
set_option maxRecDepth 20000 in
theorem ggL_call_L_tryCell : GoodIn wsL_call wsL_tryCell := goodIn_ca (goodIn_ca (goodIn_r _ [267, 268, 5, 269, 7, 270, 271, 272, 12, 273, 21, 22, 47, 274, 275, 276, 277, 278, 279, 280, 135, 136, 103, 137, 111, 112, 281, 139, 140, 141, 113, 142, 143, 282, 283, 284, 285, 228, 229, 230, 231, 160, 161, 162, 163, 114, 193, 194, 195, 196, 116, 188, 115, 197, 198, 199, 200, 122, 201, 202, 203, 204, 123, 205, 206, 207, 208, 121, 209, 210, 211, 212, 124, 152, 153, 154, 155, 286, 287, 288, 289, 253, 254, 255, 256, 189, 190, 191, 192, 244, 214, 215, 216, 217, 218, 219, 290, 291, 292, 293, 168, 169, 170, 171, 148, 149, 150, 151, 156, 157, 158, 159, 164, 165, 166, 167, 530, 531, 532, 533, 534, 535, 536, 537, 549, 550, 551, 552, 553, 554, 555, 556, 557, 558, 559, 560] (by decide +kernel) (by decide +kernel)) (goodIn_sub (fun _ h => List.mem_cons_of_mem _ (List.mem_append_left _ (List.mem_append_right _ h))) (by decide +kernel))) (goodIn_sub (fun _ h => List.mem_cons_of_mem _ (List.mem_append_right _ h)) (by decide +kernel))
set_option maxRecDepth 20000 in
theorem gL_call_L_tryCell : GoodIn wsL_call (va_wsS RL 114 yL_tryCell wsL_tryCell) := goodIn_app (goodIn_of _ (by decide +kernel)) ggL_call_L_tryCell
set_option maxRecDepth 20000 in
theorem ggL_call_L_tryNext : GoodIn wsL_call wsL_tryNext := goodIn_ca (goodIn_ca (goodIn_r _ [296, 268, 5, 269, 7, 297, 298, 299, 12, 300, 47, 274, 275, 276, 277, 278, 279, 280, 135, 136, 103, 137, 111, 112, 17, 18, 19, 20, 21, 22, 23, 24, 25, 301, 149, 150, 151, 152, 153, 154, 155, 121, 124, 122, 123, 142, 143, 156, 157, 158, 159, 160, 161, 162, 163, 114, 164, 165, 166, 167, 530, 531, 532, 533, 534, 535, 536, 537, 549, 550, 551, 552, 553, 554, 555, 556, 557, 558, 559, 560] (by decide +kernel) (by decide +kernel)) (goodIn_sub (fun _ h => List.mem_cons_of_mem _ (List.mem_append_right _ h)) (by decide +kernel))) (goodIn_sub (fun _ h => List.mem_cons_of_mem _ (List.mem_append_left _ (List.mem_append_right _ h))) (by decide +kernel))
set_option maxRecDepth 20000 in
theorem gL_call_L_tryNext : GoodIn wsL_call (va_wsS RL 118 yL_tryNext wsL_tryNext) := goodIn_app (goodIn_of _ (by decide +kernel)) ggL_call_L_tryNext
set_option maxRecDepth 20000 in
theorem ggL_call_L_trySide : GoodIn wsL_call wsL_trySide := goodIn_ca (goodIn_r _ [304, 5, 7, 305, 306, 307, 12, 308, 47, 17, 18, 19, 20, 21, 22, 23, 24, 25, 309, 161, 162, 103, 163, 114, 530, 531, 532, 533, 534, 535, 536, 537, 549, 550, 551, 552, 553, 554, 555, 556, 557, 558, 559, 560] (by decide +kernel) (by decide +kernel)) (goodIn_sub (fun _ h => List.mem_cons_of_mem _ (List.mem_append_left _ (List.mem_append_right _ h))) (by decide +kernel))
set_option maxRecDepth 20000 in
theorem gL_call_L_trySide : GoodIn wsL_call (va_wsS RL 121 yL_trySide wsL_trySide) := goodIn_app (goodIn_of _ (by decide +kernel)) ggL_call_L_trySide
set_option maxRecDepth 20000 in
theorem ggL_call_L_trySize : GoodIn wsL_call wsL_trySize := goodIn_ca (goodIn_r _ [312, 5, 7, 313, 314, 315, 12, 316, 44, 47, 17, 18, 19, 20, 21, 22, 23, 24, 25, 317, 318, 319, 90, 320, 321, 92, 322, 323, 263, 324, 325, 326, 327, 328, 329, 330, 331, 332, 103, 333, 111, 112, 105, 106, 113, 114, 121, 124, 122, 123, 115, 116, 334, 108, 109, 110, 117, 118, 119, 120, 335, 336, 337, 338, 530, 531, 532, 533, 534, 535, 536, 537, 544, 545, 546, 549, 550, 551, 552, 553, 554, 555, 556, 557, 558, 559, 560] (by decide +kernel) (by decide +kernel)) (goodIn_sub (fun _ h => List.mem_cons_of_mem _ (List.mem_append_left _ (List.mem_append_right _ h))) (by decide +kernel))
set_option maxRecDepth 20000 in
theorem gL_call_L_trySize : GoodIn wsL_call (va_wsS RL 124 yL_trySize wsL_trySize) := goodIn_app (goodIn_of _ (by decide +kernel)) ggL_call_L_trySize
set_option maxRecDepth 20000 in
theorem ggL_call_L_tryFlip : GoodIn wsL_call wsL_tryFlip := goodIn_ca (goodIn_r _ [341, 268, 269, 342, 343, 344, 12, 345, 44, 47, 274, 275, 276, 277, 278, 279, 280, 135, 136, 103, 137, 111, 112, 317, 318, 319, 90, 320, 321, 92, 322, 323, 263, 324, 325, 326, 327, 328, 329, 330, 331, 332, 333, 105, 106, 113, 114, 121, 124, 122, 123, 115, 116, 130, 131, 132, 133, 134, 138, 139, 140, 141, 142, 143, 530, 531, 532, 533, 534, 535, 536, 537, 549, 550, 551, 552, 553, 554, 555, 556, 557, 558, 559, 560, 544, 545, 546] (by decide +kernel) (by decide +kernel)) (goodIn_sub (fun _ h => List.mem_cons_of_mem _ (List.mem_append_right _ h)) (by decide +kernel))
set_option maxRecDepth 20000 in
theorem gL_call_L_tryFlip : GoodIn wsL_call (va_wsS RL 127 yL_tryFlip wsL_tryFlip) := goodIn_app (goodIn_of _ (by decide +kernel)) ggL_call_L_tryFlip
set_option maxRecDepth 20000 in
theorem ggL_call_L_tryScratch : GoodIn wsL_call wsL_tryScratch := goodIn_ca (goodIn_ca (goodIn_ca (goodIn_r _ [348, 268, 5, 6, 269, 7, 8, 349, 350, 351, 12, 352, 14, 15, 47, 44, 274, 275, 276, 277, 278, 279, 280, 135, 136, 103, 137, 111, 112, 17, 18, 19, 20, 21, 22, 23, 24, 25, 301, 149, 150, 151, 152, 153, 154, 155, 121, 124, 122, 123, 142, 143, 156, 157, 158, 159, 160, 161, 162, 163, 114, 164, 165, 166, 167, 317, 318, 319, 90, 320, 321, 92, 322, 323, 263, 324, 325, 326, 327, 328, 329, 330, 331, 332, 333, 105, 106, 113, 115, 116, 144, 145, 146, 147, 134, 148, 168, 169, 170, 171, 530, 531, 532, 533, 534, 535, 536, 537, 549, 550, 551, 552, 553, 554, 555, 556, 557, 558, 559, 560, 544, 545, 546] (by decide +kernel) (by decide +kernel)) (goodIn_sub (fun _ h => List.mem_cons_of_mem _ (List.mem_append_left _ (List.mem_append_left _ (List.mem_append_right _ h)))) (by decide +kernel))) (goodIn_sub (fun _ h => List.mem_cons_of_mem _ (List.mem_append_right _ h)) (by decide +kernel))) (goodIn_sub (fun _ h => List.mem_cons_of_mem _ (List.mem_append_left _ (List.mem_append_right _ h))) (by decide +kernel))
set_option maxRecDepth 20000 in
theorem gL_call_L_tryScratch : GoodIn wsL_call (va_wsS RL 130 yL_tryScratch wsL_tryScratch) := goodIn_app (goodIn_of _ (by decide +kernel)) ggL_call_L_tryScratch
set_option maxRecDepth 20000 in
theorem ggL_call_L_tryBorder : GoodIn wsL_call wsL_tryBorder := goodIn_ca (goodIn_r _ [355, 5, 7, 356, 357, 358, 12, 359, 44, 47, 17, 18, 19, 20, 21, 22, 23, 24, 25, 317, 318, 319, 90, 320, 321, 92, 322, 323, 263, 324, 325, 326, 327, 328, 329, 330, 331, 332, 103, 333, 111, 112, 105, 106, 113, 114, 121, 124, 122, 123, 115, 116, 172, 173, 174, 175, 160, 161, 162, 163, 176, 177, 178, 179, 530, 531, 532, 533, 534, 535, 536, 537, 544, 545, 546, 549, 550, 551, 552, 553, 554, 555, 556, 557, 558, 559, 560] (by decide +kernel) (by decide +kernel)) (goodIn_sub (fun _ h => List.mem_cons_of_mem _ (List.mem_append_left _ (List.mem_append_right _ h))) (by decide +kernel))
set_option maxRecDepth 20000 in
theorem gL_call_L_tryBorder : GoodIn wsL_call (va_wsS RL 133 yL_tryBorder wsL_tryBorder) := goodIn_app (goodIn_of _ (by decide +kernel)) ggL_call_L_tryBorder
set_option maxRecDepth 20000 in
theorem ggL_call_L_tryRule : GoodIn wsL_call wsL_tryRule := goodIn_ca (goodIn_r _ [362, 5, 7, 363, 364, 365, 12, 366, 44, 47, 17, 18, 19, 20, 21, 22, 23, 24, 25, 317, 318, 319, 90, 320, 321, 92, 322, 323, 263, 324, 325, 326, 327, 328, 329, 330, 331, 332, 103, 333, 111, 112, 105, 106, 113, 114, 121, 124, 122, 123, 115, 116, 180, 181, 182, 183, 530, 531, 532, 533, 534, 535, 536, 537, 544, 545, 546, 549, 550, 551, 552, 553, 554, 555, 556, 557, 558, 559, 560] (by decide +kernel) (by decide +kernel)) (goodIn_sub (fun _ h => List.mem_cons_of_mem _ (List.mem_append_left _ (List.mem_append_right _ h))) (by decide +kernel))
set_option maxRecDepth 20000 in
theorem gL_call_L_tryRule : GoodIn wsL_call (va_wsS RL 136 yL_tryRule wsL_tryRule) := goodIn_app (goodIn_of _ (by decide +kernel)) ggL_call_L_tryRule
set_option maxRecDepth 20000 in
theorem ggL_call_L_tryBreathe : GoodIn wsL_call wsL_tryBreathe := goodIn_ca (goodIn_ca (goodIn_r _ [369, 268, 5, 269, 7, 370, 371, 372, 12, 373, 44, 47, 274, 275, 276, 277, 278, 279, 280, 135, 136, 103, 137, 111, 112, 17, 18, 19, 20, 21, 22, 23, 24, 25, 317, 318, 319, 90, 320, 321, 92, 322, 323, 263, 324, 325, 326, 327, 328, 329, 330, 331, 332, 333, 105, 106, 113, 114, 121, 124, 122, 123, 115, 116, 184, 185, 186, 187, 188, 134, 189, 190, 191, 192, 193, 194, 195, 196, 160, 161, 162, 163, 197, 198, 199, 200, 201, 202, 203, 204, 205, 206, 207, 208, 209, 210, 211, 212, 213, 214, 215, 216, 217, 218, 219, 530, 531, 532, 533, 534, 535, 536, 537, 549, 550, 551, 552, 553, 554, 555, 556, 557, 558, 559, 560, 544, 545, 546] (by decide +kernel) (by decide +kernel)) (goodIn_sub (fun _ h => List.mem_cons_of_mem _ (List.mem_append_right _ h)) (by decide +kernel))) (goodIn_sub (fun _ h => List.mem_cons_of_mem _ (List.mem_append_left _ (List.mem_append_right _ h))) (by decide +kernel))
set_option maxRecDepth 20000 in
theorem gL_call_L_tryBreathe : GoodIn wsL_call (va_wsS RL 139 yL_tryBreathe wsL_tryBreathe) := goodIn_app (goodIn_of _ (by decide +kernel)) ggL_call_L_tryBreathe
set_option maxRecDepth 20000 in
theorem ggL_call_L_tryNights : GoodIn wsL_call wsL_tryNights := goodIn_ca (goodIn_r _ [376, 5, 7, 377, 378, 379, 12, 380, 44, 47, 17, 18, 19, 20, 21, 22, 23, 24, 25, 317, 318, 319, 90, 320, 321, 92, 322, 323, 263, 324, 325, 326, 327, 328, 329, 330, 331, 332, 103, 333, 111, 112, 105, 106, 113, 114, 121, 124, 122, 123, 115, 116, 220, 221, 222, 223, 224, 225, 226, 227, 228, 229, 230, 231, 160, 161, 162, 163, 193, 194, 195, 196, 188, 197, 198, 199, 200, 201, 202, 203, 204, 205, 206, 207, 208, 209, 210, 211, 212, 152, 153, 154, 155, 213, 214, 215, 216, 217, 218, 219, 530, 531, 532, 533, 534, 535, 536, 537, 544, 545, 546, 549, 550, 551, 552, 553, 554, 555, 556, 557, 558, 559, 560] (by decide +kernel) (by decide +kernel)) (goodIn_sub (fun _ h => List.mem_cons_of_mem _ (List.mem_append_left _ (List.mem_append_right _ h))) (by decide +kernel))
set_option maxRecDepth 20000 in
theorem gL_call_L_tryNights : GoodIn wsL_call (va_wsS RL 142 yL_tryNights wsL_tryNights) := goodIn_app (goodIn_of _ (by decide +kernel)) ggL_call_L_tryNights
set_option maxRecDepth 20000 in
theorem ggL_call_L_tryUndo : GoodIn wsL_call wsL_tryUndo := goodIn_ca (goodIn_r _ [383, 6, 8, 384, 385, 386, 12, 387, 14, 15, 44, 388, 47, 389, 390, 391, 90, 392, 321, 92, 393, 262, 263, 264, 325, 326, 327, 328, 329, 330, 331, 332, 103, 333, 111, 112, 105, 106, 113, 114, 121, 124, 122, 123, 115, 116, 530, 531, 532, 533, 534, 535, 536, 537, 544, 545, 546, 549, 550, 551, 552, 553, 554, 555, 556, 557, 558, 559, 560] (by decide +kernel) (by decide +kernel)) (goodIn_sub (fun _ h => List.mem_cons_of_mem _ (List.mem_append_left _ (List.mem_append_left _ (List.mem_append_right _ h)))) (by decide +kernel))
set_option maxRecDepth 20000 in
theorem gL_call_L_tryUndo : GoodIn wsL_call (va_wsS RL 145 yL_tryUndo wsL_tryUndo) := goodIn_app (goodIn_of _ (by decide +kernel)) ggL_call_L_tryUndo
set_option maxRecDepth 20000 in
theorem ggL_call_L_tryAgain : GoodIn wsL_call wsL_tryAgain := goodIn_ca (goodIn_r _ [396, 5, 7, 397, 398, 399, 12, 400, 17, 18, 19, 20, 21, 22, 23, 24, 25, 401, 402, 403, 404, 47, 241, 405, 406, 225, 226, 103, 227, 105, 228, 229, 230, 231, 160, 161, 162, 163, 114, 193, 194, 195, 196, 116, 188, 115, 197, 198, 199, 200, 122, 112, 111, 201, 202, 203, 204, 123, 205, 206, 207, 208, 121, 209, 210, 211, 212, 124, 152, 153, 154, 155, 407, 408, 409, 410, 411, 412, 413, 414, 415, 416, 417, 418, 530, 531, 532, 533, 534, 535, 536, 537, 549, 550, 551, 552, 553, 554, 555, 556, 557, 558, 559, 560] (by decide +kernel) (by decide +kernel)) (goodIn_sub (fun _ h => List.mem_cons_of_mem _ (List.mem_append_left _ (List.mem_append_right _ h))) (by decide +kernel))
set_option maxRecDepth 20000 in
theorem gL_call_L_tryAgain : GoodIn wsL_call (va_wsS RL 148 yL_tryAgain wsL_tryAgain) := goodIn_app (goodIn_of _ (by decide +kernel)) ggL_call_L_tryAgain
set_option maxRecDepth 20000 in
theorem ggL_call_L_tryBefores : GoodIn wsL_call wsL_tryBefores := goodIn_ca (goodIn_r _ [421, 6, 8, 422, 423, 424, 12, 425, 426, 47, 427, 428, 429, 430, 14, 15, 242, 431, 432, 433, 434, 435, 436, 437, 438, 439, 440, 441, 442, 443, 323, 263, 324, 444, 445, 446, 225, 226, 103, 227, 105, 228, 229, 230, 231, 160, 161, 162, 163, 114, 193, 194, 195, 196, 116, 188, 115, 197, 198, 199, 200, 122, 112, 111, 201, 202, 203, 204, 123, 205, 206, 207, 208, 121, 209, 210, 211, 212, 124, 152, 153, 154, 155, 447, 336, 337, 338, 448, 449, 450, 451, 142, 143, 452, 453, 454, 455, 456, 457, 458, 459, 460, 461, 462, 463, 464, 465, 466, 467, 468, 469, 214, 215, 216, 217, 218, 219, 530, 531, 532, 533, 534, 535, 536, 537, 549, 550, 551, 552, 553, 554, 555, 556, 557, 558, 559, 560, 561, 562, 563, 564] (by decide +kernel) (by decide +kernel)) (goodIn_sub (fun _ h => List.mem_cons_of_mem _ (List.mem_append_left _ (List.mem_append_left _ (List.mem_append_right _ h)))) (by decide +kernel))
set_option maxRecDepth 20000 in
theorem gL_call_L_tryBefores : GoodIn wsL_call (va_wsS RL 151 yL_tryBefores wsL_tryBefores) := goodIn_app (goodIn_of _ (by decide +kernel)) ggL_call_L_tryBefores
set_option maxRecDepth 20000 in
theorem ggL_call_L_tryFreezes : GoodIn wsL_call wsL_tryFreezes := goodIn_ca (goodIn_r _ [472, 268, 269, 473, 474, 475, 12, 476, 47, 241, 274, 275, 276, 277, 278, 279, 280, 135, 136, 103, 137, 111, 112, 477, 142, 143, 406, 225, 226, 227, 105, 228, 229, 230, 231, 160, 161, 162, 163, 114, 193, 194, 195, 196, 116, 188, 115, 197, 198, 199, 200, 122, 201, 202, 203, 204, 123, 205, 206, 207, 208, 121, 209, 210, 211, 212, 124, 152, 153, 154, 155, 530, 531, 532, 533, 534, 535, 536, 537, 549, 550, 551, 552, 553, 554, 555, 556, 557, 558, 559, 560] (by decide +kernel) (by decide +kernel)) (goodIn_sub (fun _ h => List.mem_cons_of_mem _ (List.mem_append_right _ h)) (by decide +kernel))
set_option maxRecDepth 20000 in
theorem gL_call_L_tryFreezes : GoodIn wsL_call (va_wsS RL 154 yL_tryFreezes wsL_tryFreezes) := goodIn_app (goodIn_of _ (by decide +kernel)) ggL_call_L_tryFreezes
set_option maxRecDepth 20000 in
theorem ggL_call_L_tryKeeps : GoodIn wsL_call wsL_tryKeeps := goodIn_ca (goodIn_ca (goodIn_r _ [480, 268, 5, 269, 7, 481, 482, 483, 12, 484, 485, 47, 274, 275, 276, 277, 278, 279, 280, 135, 136, 103, 137, 111, 112, 17, 18, 19, 20, 21, 22, 23, 24, 25, 486, 331, 332, 333, 105, 106, 113, 114, 121, 124, 122, 123, 115, 116, 335, 336, 337, 338, 487, 488, 489, 490, 301, 149, 150, 151, 152, 153, 154, 155, 142, 143, 156, 157, 158, 159, 160, 161, 162, 163, 164, 165, 166, 167, 491, 169, 170, 171, 148, 492, 493, 494, 495, 144, 145, 146, 147, 134, 168, 496, 497, 498, 499, 224, 225, 226, 227, 228, 229, 230, 231, 193, 194, 195, 196, 188, 197, 198, 199, 200, 201, 202, 203, 204, 205, 206, 207, 208, 209, 210, 211, 212, 530, 531, 532, 533, 534, 535, 536, 537, 549, 550, 551, 552, 553, 554, 555, 556, 557, 558, 559, 560] (by decide +kernel) (by decide +kernel)) (goodIn_sub (fun _ h => List.mem_cons_of_mem _ (List.mem_append_right _ h)) (by decide +kernel))) (goodIn_sub (fun _ h => List.mem_cons_of_mem _ (List.mem_append_left _ (List.mem_append_right _ h))) (by decide +kernel))
set_option maxRecDepth 20000 in
theorem gL_call_L_tryKeeps : GoodIn wsL_call (va_wsS RL 157 yL_tryKeeps wsL_tryKeeps) := goodIn_app (goodIn_of _ (by decide +kernel)) ggL_call_L_tryKeeps
set_option maxRecDepth 20000 in
theorem ggL_call_L_tryKeep : GoodIn wsL_call wsL_tryKeep := goodIn_ca (goodIn_r _ [502, 268, 269, 503, 504, 505, 12, 506, 47, 243, 507, 508, 509, 510, 278, 279, 511, 512, 513, 514, 45, 46, 515, 516, 517, 96, 518, 519, 98, 520, 331, 332, 103, 333, 111, 112, 105, 106, 113, 114, 121, 124, 122, 123, 115, 116, 530, 531, 532, 533, 534, 535, 536, 537, 549, 550, 551, 552, 553, 554, 555, 556, 557, 558, 559, 560, 547, 548] (by decide +kernel) (by decide +kernel)) (goodIn_sub (fun _ h => List.mem_cons_of_mem _ (List.mem_append_right _ h)) (by decide +kernel))
set_option maxRecDepth 20000 in
theorem gL_call_L_tryKeep : GoodIn wsL_call (va_wsS RL 160 yL_tryKeep wsL_tryKeep) := goodIn_app (goodIn_of _ (by decide +kernel)) ggL_call_L_tryKeep
set_option maxRecDepth 20000 in
theorem ggL_call_L_tryBack : GoodIn wsL_call wsL_tryBack := goodIn_ca (goodIn_ca (goodIn_r _ [523, 268, 6, 269, 8, 524, 525, 526, 12, 527, 14, 15, 528, 47, 529, 44, 243, 507, 508, 509, 510, 278, 279, 511, 512, 513, 514, 45, 46, 486, 331, 332, 103, 333, 111, 112, 105, 106, 113, 114, 121, 124, 122, 123, 115, 116, 87, 88, 89, 90, 91, 92, 547, 548, 530, 531, 532, 533, 534, 535, 536, 537, 549, 550, 551, 552, 553, 554, 555, 556, 557, 558, 559, 560, 544, 545, 546] (by decide +kernel) (by decide +kernel)) (goodIn_sub (fun _ h => List.mem_cons_of_mem _ (List.mem_append_left _ (List.mem_append_left _ (List.mem_append_right _ h)))) (by decide +kernel))) (goodIn_sub (fun _ h => List.mem_cons_of_mem _ (List.mem_append_right _ h)) (by decide +kernel))
set_option maxRecDepth 20000 in
theorem gL_call_L_tryBack : GoodIn wsL_call (va_wsS RL 163 yL_tryBack wsL_tryBack) := goodIn_app (goodIn_of _ (by decide +kernel)) ggL_call_L_tryBack
theorem dL_call_0 : decode cL_call 0 = .ok (.iload_n 1, 1) := by decide +kernel
theorem dL_call_1 : decode cL_call 1 = .ok (.tableswitch 209 0 18 #[91, 97, 102, 108, 115, 122, 128, 135, 141, 148, 155, 161, 168, 174, 179, 185, 190, 196, 203], 91) := by decide +kernel
theorem dL_call_92 : decode cL_call 92 = .ok (.aload_n 0, 1) := by decide +kernel
theorem dL_call_93 : decode cL_call 93 = .ok (.iload_n 2, 1) := by decide +kernel
theorem dL_call_94 : decode cL_call 94 = .ok (.invokestatic 101, 3) := by decide +kernel
theorem dL_call_97 : decode cL_call 97 = .ok (.ireturn, 1) := by decide +kernel
theorem dL_call_98 : decode cL_call 98 = .ok (.aload_n 0, 1) := by decide +kernel
theorem dL_call_99 : decode cL_call 99 = .ok (.invokestatic 107, 3) := by decide +kernel
theorem dL_call_102 : decode cL_call 102 = .ok (.ireturn, 1) := by decide +kernel
theorem dL_call_103 : decode cL_call 103 = .ok (.aload_n 0, 1) := by decide +kernel
theorem dL_call_104 : decode cL_call 104 = .ok (.iload_n 2, 1) := by decide +kernel
theorem dL_call_105 : decode cL_call 105 = .ok (.invokestatic 111, 3) := by decide +kernel
theorem dL_call_108 : decode cL_call 108 = .ok (.ireturn, 1) := by decide +kernel
theorem dL_call_109 : decode cL_call 109 = .ok (.aload_n 0, 1) := by decide +kernel
theorem dL_call_110 : decode cL_call 110 = .ok (.iload_n 2, 1) := by decide +kernel
theorem dL_call_111 : decode cL_call 111 = .ok (.iload_n 3, 1) := by decide +kernel
theorem dL_call_112 : decode cL_call 112 = .ok (.invokestatic 114, 3) := by decide +kernel
theorem dL_call_115 : decode cL_call 115 = .ok (.ireturn, 1) := by decide +kernel
theorem dL_call_116 : decode cL_call 116 = .ok (.aload_n 0, 1) := by decide +kernel
theorem dL_call_117 : decode cL_call 117 = .ok (.iload_n 2, 1) := by decide +kernel
theorem dL_call_118 : decode cL_call 118 = .ok (.iload_n 3, 1) := by decide +kernel
theorem dL_call_119 : decode cL_call 119 = .ok (.invokestatic 118, 3) := by decide +kernel
theorem dL_call_122 : decode cL_call 122 = .ok (.ireturn, 1) := by decide +kernel
theorem dL_call_123 : decode cL_call 123 = .ok (.aload_n 0, 1) := by decide +kernel
theorem dL_call_124 : decode cL_call 124 = .ok (.iload_n 2, 1) := by decide +kernel
theorem dL_call_125 : decode cL_call 125 = .ok (.invokestatic 121, 3) := by decide +kernel
theorem dL_call_128 : decode cL_call 128 = .ok (.ireturn, 1) := by decide +kernel
theorem dL_call_129 : decode cL_call 129 = .ok (.aload_n 0, 1) := by decide +kernel
theorem dL_call_130 : decode cL_call 130 = .ok (.iload_n 2, 1) := by decide +kernel
theorem dL_call_131 : decode cL_call 131 = .ok (.iload_n 3, 1) := by decide +kernel
theorem dL_call_132 : decode cL_call 132 = .ok (.invokestatic 124, 3) := by decide +kernel
theorem dL_call_135 : decode cL_call 135 = .ok (.ireturn, 1) := by decide +kernel
theorem dL_call_136 : decode cL_call 136 = .ok (.aload_n 0, 1) := by decide +kernel
theorem dL_call_137 : decode cL_call 137 = .ok (.iload_n 2, 1) := by decide +kernel
theorem dL_call_138 : decode cL_call 138 = .ok (.invokestatic 127, 3) := by decide +kernel
theorem dL_call_141 : decode cL_call 141 = .ok (.ireturn, 1) := by decide +kernel
theorem dL_call_142 : decode cL_call 142 = .ok (.aload_n 0, 1) := by decide +kernel
theorem dL_call_143 : decode cL_call 143 = .ok (.iload_n 2, 1) := by decide +kernel
theorem dL_call_144 : decode cL_call 144 = .ok (.iload_n 3, 1) := by decide +kernel
theorem dL_call_145 : decode cL_call 145 = .ok (.invokestatic 130, 3) := by decide +kernel
theorem dL_call_148 : decode cL_call 148 = .ok (.ireturn, 1) := by decide +kernel
theorem dL_call_149 : decode cL_call 149 = .ok (.aload_n 0, 1) := by decide +kernel
theorem dL_call_150 : decode cL_call 150 = .ok (.iload_n 2, 1) := by decide +kernel
theorem dL_call_151 : decode cL_call 151 = .ok (.iload_n 3, 1) := by decide +kernel
theorem dL_call_152 : decode cL_call 152 = .ok (.invokestatic 133, 3) := by decide +kernel
theorem dL_call_155 : decode cL_call 155 = .ok (.ireturn, 1) := by decide +kernel
theorem dL_call_156 : decode cL_call 156 = .ok (.aload_n 0, 1) := by decide +kernel
theorem dL_call_157 : decode cL_call 157 = .ok (.iload_n 2, 1) := by decide +kernel
theorem dL_call_158 : decode cL_call 158 = .ok (.invokestatic 136, 3) := by decide +kernel
theorem dL_call_161 : decode cL_call 161 = .ok (.ireturn, 1) := by decide +kernel
theorem dL_call_162 : decode cL_call 162 = .ok (.aload_n 0, 1) := by decide +kernel
theorem dL_call_163 : decode cL_call 163 = .ok (.iload_n 2, 1) := by decide +kernel
theorem dL_call_164 : decode cL_call 164 = .ok (.iload_n 3, 1) := by decide +kernel
theorem dL_call_165 : decode cL_call 165 = .ok (.invokestatic 139, 3) := by decide +kernel
theorem dL_call_168 : decode cL_call 168 = .ok (.ireturn, 1) := by decide +kernel
theorem dL_call_169 : decode cL_call 169 = .ok (.aload_n 0, 1) := by decide +kernel
theorem dL_call_170 : decode cL_call 170 = .ok (.iload_n 2, 1) := by decide +kernel
theorem dL_call_171 : decode cL_call 171 = .ok (.invokestatic 142, 3) := by decide +kernel
theorem dL_call_174 : decode cL_call 174 = .ok (.ireturn, 1) := by decide +kernel
theorem dL_call_175 : decode cL_call 175 = .ok (.aload_n 0, 1) := by decide +kernel
theorem dL_call_176 : decode cL_call 176 = .ok (.invokestatic 145, 3) := by decide +kernel
theorem dL_call_179 : decode cL_call 179 = .ok (.ireturn, 1) := by decide +kernel
theorem dL_call_180 : decode cL_call 180 = .ok (.aload_n 0, 1) := by decide +kernel
theorem dL_call_181 : decode cL_call 181 = .ok (.iload_n 2, 1) := by decide +kernel
theorem dL_call_182 : decode cL_call 182 = .ok (.invokestatic 148, 3) := by decide +kernel
theorem dL_call_185 : decode cL_call 185 = .ok (.ireturn, 1) := by decide +kernel
theorem dL_call_186 : decode cL_call 186 = .ok (.aload_n 0, 1) := by decide +kernel
theorem dL_call_187 : decode cL_call 187 = .ok (.invokestatic 151, 3) := by decide +kernel
theorem dL_call_190 : decode cL_call 190 = .ok (.ireturn, 1) := by decide +kernel
theorem dL_call_191 : decode cL_call 191 = .ok (.aload_n 0, 1) := by decide +kernel
theorem dL_call_192 : decode cL_call 192 = .ok (.iload_n 2, 1) := by decide +kernel
theorem dL_call_193 : decode cL_call 193 = .ok (.invokestatic 154, 3) := by decide +kernel
theorem dL_call_196 : decode cL_call 196 = .ok (.ireturn, 1) := by decide +kernel
theorem dL_call_197 : decode cL_call 197 = .ok (.aload_n 0, 1) := by decide +kernel
theorem dL_call_198 : decode cL_call 198 = .ok (.iload_n 2, 1) := by decide +kernel
theorem dL_call_199 : decode cL_call 199 = .ok (.iload_n 3, 1) := by decide +kernel
theorem dL_call_200 : decode cL_call 200 = .ok (.invokestatic 157, 3) := by decide +kernel
theorem dL_call_203 : decode cL_call 203 = .ok (.ireturn, 1) := by decide +kernel
theorem dL_call_204 : decode cL_call 204 = .ok (.aload_n 0, 1) := by decide +kernel
theorem dL_call_205 : decode cL_call 205 = .ok (.iload_n 2, 1) := by decide +kernel
theorem dL_call_206 : decode cL_call 206 = .ok (.invokestatic 160, 3) := by decide +kernel
theorem dL_call_209 : decode cL_call 209 = .ok (.ireturn, 1) := by decide +kernel
theorem dL_call_210 : decode cL_call 210 = .ok (.aload_n 0, 1) := by decide +kernel
theorem dL_call_211 : decode cL_call 211 = .ok (.iload_n 2, 1) := by decide +kernel
theorem dL_call_212 : decode cL_call 212 = .ok (.invokestatic 163, 3) := by decide +kernel
theorem dL_call_215 : decode cL_call 215 = .ok (.ireturn, 1) := by decide +kernel
theorem dL_cell_0 : decode cL_cell 0 = .ok (.iload_n 1, 1) := by decide +kernel
theorem dL_cell_1 : decode cL_cell 1 = .ok (.aload_n 0, 1) := by decide +kernel
theorem dL_cell_2 : decode cL_cell 2 = .ok (.arraylength, 1) := by decide +kernel
theorem dL_cell_3 : decode cL_cell 3 = .ok (.if_icmp .ge 9, 3) := by decide +kernel
theorem dL_cell_6 : decode cL_cell 6 = .ok (.aload_n 0, 1) := by decide +kernel
theorem dL_cell_7 : decode cL_cell 7 = .ok (.iload_n 1, 1) := by decide +kernel
theorem dL_cell_8 : decode cL_cell 8 = .ok (.iaload, 1) := by decide +kernel
theorem dL_cell_9 : decode cL_cell 9 = .ok (.goto 13, 3) := by decide +kernel
theorem dL_cell_12 : decode cL_cell 12 = .ok (.ldc 166, 2) := by decide +kernel
theorem dL_cell_14 : decode cL_cell 14 = .ok (.iload_n 1, 1) := by decide +kernel
theorem dL_cell_15 : decode cL_cell 15 = .ok (.iconst 3, 1) := by decide +kernel
theorem dL_cell_16 : decode cL_cell 16 = .ok (.iadd, 1) := by decide +kernel
theorem dL_cell_17 : decode cL_cell 17 = .ok (.imul, 1) := by decide +kernel
theorem dL_cell_18 : decode cL_cell 18 = .ok (.sipush 11369, 3) := by decide +kernel
theorem dL_cell_21 : decode cL_cell 21 = .ok (.iadd, 1) := by decide +kernel
theorem dL_cell_22 : decode cL_cell 22 = .ok (.ldc 167, 2) := by decide +kernel
theorem dL_cell_24 : decode cL_cell 24 = .ok (.iand, 1) := by decide +kernel
theorem dL_cell_25 : decode cL_cell 25 = .ok (.ireturn, 1) := by decide +kernel
theorem dL_thrown_0 : decode cL_thrown 0 = .ok (.iload_n 0, 1) := by decide +kernel
theorem dL_thrown_1 : decode cL_thrown 1 = .ok (.ldc 52, 2) := by decide +kernel
theorem dL_thrown_3 : decode cL_thrown 3 = .ok (.if_icmp .eq 15, 3) := by decide +kernel
theorem dL_thrown_6 : decode cL_thrown 6 = .ok (.iload_n 0, 1) := by decide +kernel
theorem dL_thrown_7 : decode cL_thrown 7 = .ok (.ldc 29, 2) := by decide +kernel
theorem dL_thrown_9 : decode cL_thrown 9 = .ok (.if_icmp .eq 9, 3) := by decide +kernel
theorem dL_thrown_12 : decode cL_thrown 12 = .ok (.iload_n 0, 1) := by decide +kernel
theorem dL_thrown_13 : decode cL_thrown 13 = .ok (.ldc 38, 2) := by decide +kernel
theorem dL_thrown_15 : decode cL_thrown 15 = .ok (.if_icmp .ne 7, 3) := by decide +kernel
theorem dL_thrown_18 : decode cL_thrown 18 = .ok (.iconst 1, 1) := by decide +kernel
theorem dL_thrown_19 : decode cL_thrown 19 = .ok (.goto 4, 3) := by decide +kernel
theorem dL_thrown_22 : decode cL_thrown 22 = .ok (.iconst 0, 1) := by decide +kernel
theorem dL_thrown_23 : decode cL_thrown 23 = .ok (.ireturn, 1) := by decide +kernel
