set_option maxRecDepth 20000 in
theorem ggL_law_X5_init : GoodIn wsL_law wsX5_init := goodIn_r _ [6, 7, 8, 9, 10, 11, 12, 13, 14, 15, 16, 17, 18, 19, 20, 21, 22, 23, 24, 25, 26, 27, 28, 29, 30, 31, 32, 33, 34, 35, 36, 37, 38, 39, 40, 41, 42, 43, 44, 45, 46, 47, 48, 49, 50, 51, 52, 53, 54, 55, 56, 57, 58, 59, 60, 61, 62, 63, 64, 65, 66, 67, 68, 69, 70, 71, 72, 73, 74, 668, 669, 670, 671, 672, 673, 660, 661, 662, 663, 664, 665, 666, 667, 674, 675, 676, 677, 678, 679, 680, 681, 682, 683, 684, 685, 686, 687, 688, 689, 690, 691, 692, 693, 694] (by decide +kernel) (by decide +kernel)
set_option maxRecDepth 20000 in
theorem gL_law_X5_init : GoodIn wsL_law (wsX5_init) := ggL_law_X5_init
set_option maxRecDepth 20000 in
theorem ggL_law_L_cell : GoodIn wsL_law wsL_cell := goodIn_r _ [78, 79, 80] (by decide +kernel) (by decide +kernel)
set_option maxRecDepth 20000 in
theorem gL_law_L_cell : GoodIn wsL_law (va_wsS RL 190 yL_cell wsL_cell) := goodIn_app (goodIn_of _ (by decide +kernel)) ggL_law_L_cell
set_option maxRecDepth 20000 in
theorem ggL_law_L_act : GoodIn wsL_law wsL_act := goodIn_ca (goodIn_ca (goodIn_ca (goodIn_r _ [83, 84, 85, 77, 86, 87, 88, 89, 90, 91, 92, 93, 94, 95, 96, 2, 97, 98, 99, 13, 100, 101, 102, 103, 104, 105, 106, 107, 108, 109, 110, 111, 12, 112, 113, 39, 114, 115, 116, 117, 118, 119, 120, 121, 122, 123, 124, 22, 26, 27, 17, 125, 126, 127, 128, 129, 130, 131, 132, 133, 134, 135, 136, 137, 138, 139, 140, 141, 142, 143, 144, 145, 146, 147, 148, 149, 150, 151, 152, 153, 154, 155, 156, 157, 158, 159, 160, 161, 162, 163, 164, 165, 166, 21, 167, 168, 169, 170, 171, 25, 172, 173, 174, 175, 176, 177, 16, 178, 46, 47, 179, 180, 181, 182, 44, 45, 183, 184, 185, 186, 48, 49, 50, 51, 52, 53, 54, 55, 187, 188, 189, 190, 191, 192, 193, 194, 195, 196, 197, 198, 199, 200, 201, 202, 203, 204, 205, 206, 207, 208, 209, 210, 211, 212, 213, 214, 215, 216, 217, 218, 219, 220, 221, 222, 223, 224, 225, 226, 227, 228, 229, 230, 231, 232, 233, 234, 235, 236, 237, 238, 239, 240, 241, 242, 243, 244, 245, 246, 247, 248, 249, 250, 251, 252, 253, 254, 255, 256, 257, 258, 259, 260, 261, 262, 263, 264, 265, 266, 267, 268, 269, 270, 271, 272, 273, 274, 275, 276, 277, 278, 279, 280, 281, 282, 283, 284, 285, 286, 287, 288, 289, 290, 291, 292, 293, 294, 295, 296, 297, 298, 299, 300, 301, 302, 303, 304, 305, 306, 307, 308, 309, 310, 311, 312, 313, 314, 315, 316, 317, 318, 319, 320, 321, 322, 323, 324, 325, 326, 327, 328, 329, 330, 331, 332, 333, 334, 335, 336, 337, 338, 339, 340, 341, 342, 343, 344, 345, 346, 347, 348, 349, 350, 351, 352, 353, 354, 355, 356, 357, 358, 359, 360, 361, 362, 363, 364, 365, 366, 367, 368, 369, 370, 371, 372, 373, 374, 375, 376, 377, 378, 379, 380, 381, 382, 383, 384, 385, 386, 387, 388, 389, 390, 61, 391, 392, 393, 394, 395, 396, 397, 398, 399, 400, 401, 402, 403, 404, 405, 406, 407, 408, 409, 410, 411, 412, 413, 414, 415, 416, 417, 418, 419, 420, 421, 422, 423, 424, 425, 426, 427, 428, 429, 430, 431, 432, 433, 434, 435, 436, 437, 438, 439, 440, 441, 442, 443, 444, 445, 446, 447, 448, 449, 450, 451, 452, 453, 454, 455, 456, 457, 458, 459, 460, 461, 462, 463, 464, 465, 33, 466, 467, 468, 469, 470, 471, 472, 473, 474, 475, 476, 477, 478, 479, 480, 481, 482, 483, 484, 485, 31, 486, 487, 488, 489, 490, 491, 492, 30, 493, 494, 495, 496, 497, 498, 499, 74, 500, 501, 502, 503, 504, 505, 506, 507, 508, 509, 510, 511, 512, 513, 514, 515, 516, 517, 518, 519, 520, 521, 522, 523, 524, 525, 526, 527, 528, 529, 530, 531, 532, 533, 534, 535, 536, 537, 538, 539, 540, 541, 18, 542, 543, 544, 545, 546, 547, 548, 549, 550, 551, 552, 553, 554, 555, 556, 557, 558, 559, 560, 561, 562, 563, 564, 565, 566, 567, 568, 569, 570, 571, 572, 573, 574, 68, 575, 576, 577, 578, 579, 580, 581, 582, 583, 584, 660, 661, 662, 663, 664, 665, 666, 667, 668, 669, 670, 671, 672, 673, 686, 687, 688, 689, 690, 674, 675, 676, 677, 678, 679, 680, 681, 682, 683, 684, 685, 691, 692, 693, 694] (by decide +kernel) (by decide +kernel)) (goodIn_sub (fun _ h => List.mem_append_left _ (List.mem_append_left _ (List.mem_append_right _ h))) (by decide +kernel))) (goodIn_sub (fun _ h => List.mem_append_left _ (List.mem_append_right _ h)) (by decide +kernel))) (goodIn_sub (fun _ h => List.mem_append_right _ h) (by decide +kernel))
set_option maxRecDepth 20000 in
theorem gL_law_L_act : GoodIn wsL_law (va_wsS RL 193 yL_act wsL_act) := goodIn_app (goodIn_of _ (by decide +kernel)) ggL_law_L_act
set_option maxRecDepth 20000 in
theorem ggL_law_L_refuses : GoodIn wsL_law wsL_refuses := goodIn_ca (goodIn_ca (goodIn_ca (goodIn_r _ [587, 92, 331, 588, 589, 84, 85, 77, 86, 87, 88, 89, 90, 91, 93, 94, 95, 96, 2, 97, 98, 99, 13, 100, 101, 102, 103, 104, 105, 106, 107, 108, 109, 110, 111, 12, 112, 113, 39, 114, 115, 116, 117, 118, 119, 120, 121, 122, 123, 124, 22, 26, 27, 17, 125, 126, 127, 128, 129, 130, 131, 132, 133, 134, 135, 136, 137, 138, 139, 140, 141, 142, 143, 144, 145, 146, 147, 148, 149, 150, 151, 152, 153, 154, 155, 156, 157, 158, 159, 160, 161, 162, 163, 164, 165, 166, 21, 167, 168, 169, 170, 171, 25, 172, 173, 174, 175, 176, 177, 16, 178, 46, 47, 179, 180, 181, 182, 44, 45, 183, 184, 185, 186, 48, 49, 50, 51, 52, 53, 54, 55, 187, 188, 189, 190, 191, 192, 193, 194, 195, 196, 197, 198, 199, 200, 201, 202, 203, 204, 205, 206, 207, 208, 209, 210, 211, 212, 213, 214, 215, 216, 217, 218, 219, 220, 221, 222, 223, 224, 225, 226, 227, 228, 229, 230, 231, 232, 233, 234, 235, 236, 237, 238, 239, 240, 241, 242, 243, 244, 245, 246, 247, 248, 249, 250, 251, 252, 253, 254, 255, 256, 257, 258, 259, 260, 261, 262, 263, 264, 265, 266, 267, 268, 269, 270, 271, 272, 273, 274, 275, 276, 277, 278, 279, 280, 281, 282, 283, 284, 285, 286, 287, 288, 289, 290, 291, 292, 293, 294, 295, 296, 297, 298, 299, 300, 301, 302, 303, 304, 305, 306, 307, 308, 309, 310, 311, 312, 313, 314, 315, 316, 317, 318, 319, 320, 321, 322, 323, 324, 325, 326, 327, 328, 329, 330, 332, 333, 334, 335, 336, 337, 338, 339, 340, 341, 342, 343, 344, 345, 346, 347, 348, 349, 350, 351, 352, 353, 354, 355, 356, 357, 358, 359, 360, 361, 362, 363, 364, 365, 366, 367, 368, 369, 370, 371, 372, 373, 374, 375, 376, 377, 378, 379, 380, 381, 382, 383, 384, 385, 386, 387, 388, 389, 390, 61, 391, 392, 393, 394, 395, 396, 397, 398, 399, 400, 401, 402, 403, 404, 405, 406, 407, 408, 409, 410, 411, 412, 413, 414, 415, 416, 417, 418, 419, 420, 421, 422, 423, 424, 425, 426, 427, 428, 429, 430, 431, 432, 433, 434, 435, 436, 437, 438, 439, 440, 441, 442, 443, 444, 445, 446, 447, 448, 449, 450, 451, 452, 453, 454, 455, 456, 457, 458, 459, 460, 461, 462, 463, 464, 465, 33, 466, 467, 468, 469, 470, 471, 472, 473, 474, 475, 476, 477, 478, 479, 480, 481, 482, 483, 484, 485, 31, 486, 487, 488, 489, 490, 491, 492, 30, 493, 494, 495, 496, 497, 498, 499, 74, 500, 501, 502, 503, 504, 505, 506, 507, 508, 509, 510, 511, 512, 513, 514, 515, 516, 517, 518, 519, 520, 521, 522, 523, 524, 525, 526, 527, 528, 529, 530, 531, 532, 533, 534, 535, 536, 537, 538, 539, 540, 541, 18, 542, 543, 544, 545, 546, 547, 548, 549, 550, 551, 552, 553, 554, 555, 556, 557, 558, 559, 560, 561, 562, 563, 564, 565, 566, 567, 568, 569, 570, 571, 572, 573, 574, 68, 575, 576, 577, 578, 579, 580, 581, 582, 583, 584, 590, 591, 592, 593, 594, 595, 596, 597, 598, 599, 600, 601, 602, 603, 604, 605, 606, 607, 608, 609, 610, 611, 612, 613, 614, 615, 616, 617, 618, 619, 620, 621, 622, 623, 624, 660, 661, 662, 663, 664, 665, 666, 667, 668, 669, 670, 671, 672, 673, 686, 687, 688, 689, 690, 674, 675, 676, 677, 678, 679, 680, 681, 682, 683, 684, 685, 691, 692, 693, 694] (by decide +kernel) (by decide +kernel)) (goodIn_sub (fun _ h => List.mem_append_left _ (List.mem_append_left _ (List.mem_append_right _ h))) (by decide +kernel))) (goodIn_sub (fun _ h => List.mem_append_left _ (List.mem_append_right _ h)) (by decide +kernel))) (goodIn_sub (fun _ h => List.mem_append_right _ h) (by decide +kernel))
set_option maxRecDepth 20000 in
theorem gL_law_L_refuses : GoodIn wsL_law (va_wsS RL 197 yL_refuses wsL_refuses) := goodIn_app (goodIn_of _ (by decide +kernel)) ggL_law_L_refuses
set_option maxRecDepth 20000 in
theorem ggL_law_L_alike : GoodIn wsL_law wsL_alike := goodIn_ca (goodIn_ca (goodIn_ca (goodIn_r _ [627, 84, 85, 77, 86, 87, 88, 89, 90, 91, 92, 93, 94, 95, 96, 2, 97, 98, 99, 13, 100, 101, 102, 103, 104, 105, 106, 107, 108, 109, 110, 111, 12, 112, 113, 39, 114, 115, 116, 117, 118, 119, 120, 121, 122, 123, 124, 22, 26, 27, 17, 125, 126, 127, 128, 129, 130, 131, 132, 133, 134, 135, 136, 137, 138, 139, 140, 141, 142, 143, 144, 145, 146, 147, 148, 149, 150, 151, 152, 153, 154, 155, 156, 157, 158, 159, 160, 161, 162, 163, 164, 165, 166, 21, 167, 168, 169, 170, 171, 25, 172, 173, 174, 175, 176, 177, 16, 178, 46, 47, 179, 180, 181, 182, 44, 45, 183, 184, 185, 186, 48, 49, 50, 51, 52, 53, 54, 55, 187, 188, 189, 190, 191, 192, 193, 194, 195, 196, 197, 198, 199, 200, 201, 202, 203, 204, 205, 206, 207, 208, 209, 210, 211, 212, 213, 214, 215, 216, 217, 218, 219, 220, 221, 222, 223, 224, 225, 226, 227, 228, 229, 230, 231, 232, 233, 234, 235, 236, 237, 238, 239, 240, 241, 242, 243, 244, 245, 246, 247, 248, 249, 250, 251, 252, 253, 254, 255, 256, 257, 258, 259, 260, 261, 262, 263, 264, 265, 266, 267, 268, 269, 270, 271, 272, 273, 274, 275, 276, 277, 278, 279, 280, 281, 282, 283, 284, 285, 286, 287, 288, 289, 290, 291, 292, 293, 294, 295, 296, 297, 298, 299, 300, 301, 302, 303, 304, 305, 306, 307, 308, 309, 310, 311, 312, 313, 314, 315, 316, 317, 318, 319, 320, 321, 322, 323, 324, 325, 326, 327, 328, 329, 330, 331, 332, 333, 334, 335, 336, 337, 338, 339, 340, 341, 342, 343, 344, 345, 346, 347, 348, 349, 350, 351, 352, 353, 354, 355, 356, 357, 358, 359, 360, 361, 362, 363, 364, 365, 366, 367, 368, 369, 370, 371, 372, 373, 374, 375, 376, 377, 378, 379, 380, 381, 382, 383, 384, 385, 386, 387, 388, 389, 390, 61, 391, 392, 393, 394, 395, 396, 397, 398, 399, 400, 401, 402, 403, 404, 405, 406, 407, 408, 409, 410, 411, 412, 413, 414, 415, 416, 417, 418, 419, 420, 421, 422, 423, 424, 425, 426, 427, 428, 429, 430, 431, 432, 433, 434, 435, 436, 437, 438, 439, 440, 441, 442, 443, 444, 445, 446, 447, 448, 449, 450, 451, 452, 453, 454, 455, 456, 457, 458, 459, 460, 461, 462, 463, 464, 465, 33, 466, 467, 468, 469, 470, 471, 472, 473, 474, 475, 476, 477, 478, 479, 480, 481, 482, 483, 484, 485, 31, 486, 487, 488, 489, 490, 491, 492, 30, 493, 494, 495, 496, 497, 498, 499, 74, 500, 501, 502, 503, 504, 505, 506, 507, 508, 509, 510, 511, 512, 513, 514, 515, 516, 517, 518, 519, 520, 521, 522, 523, 524, 525, 526, 527, 528, 529, 530, 531, 532, 533, 534, 535, 536, 537, 538, 539, 540, 541, 18, 542, 543, 544, 545, 546, 547, 548, 549, 550, 551, 552, 553, 554, 555, 556, 557, 558, 559, 560, 561, 562, 563, 564, 565, 566, 567, 568, 569, 570, 571, 572, 573, 574, 68, 575, 576, 577, 578, 579, 580, 581, 582, 583, 584, 612, 613, 614, 615, 616, 617, 618, 619, 620, 621, 622, 623, 624, 628, 629, 630, 631, 590, 591, 592, 588, 593, 594, 595, 596, 660, 661, 662, 663, 664, 665, 666, 667, 668, 669, 670, 671, 672, 673, 686, 687, 688, 689, 690, 674, 675, 676, 677, 678, 679, 680, 681, 682, 683, 684, 685, 691, 692, 693, 694] (by decide +kernel) (by decide +kernel)) (goodIn_sub (fun _ h => List.mem_append_left _ (List.mem_append_left _ (List.mem_append_right _ h))) (by decide +kernel))) (goodIn_sub (fun _ h => List.mem_append_left _ (List.mem_append_right _ h)) (by decide +kernel))) (goodIn_sub (fun _ h => List.mem_append_right _ h) (by decide +kernel))
set_option maxRecDepth 20000 in
theorem gL_law_L_alike : GoodIn wsL_law (va_wsS RL 201 yL_alike wsL_alike) := goodIn_app (goodIn_of _ (by decide +kernel)) ggL_law_L_alike
set_option maxRecDepth 20000 in
theorem ggL_law_L_holds : GoodIn wsL_law wsL_holds := goodIn_ca (goodIn_ca (goodIn_ca (goodIn_r _ [634, 84, 85, 77, 86, 87, 88, 89, 90, 91, 92, 93, 94, 95, 96, 2, 97, 98, 99, 13, 100, 101, 102, 103, 104, 105, 106, 107, 108, 109, 110, 111, 12, 112, 113, 39, 114, 115, 116, 117, 118, 119, 120, 121, 122, 123, 124, 22, 26, 27, 17, 125, 126, 127, 128, 129, 130, 131, 132, 133, 134, 135, 136, 137, 138, 139, 140, 141, 142, 143, 144, 145, 146, 147, 148, 149, 150, 151, 152, 153, 154, 155, 156, 157, 158, 159, 160, 161, 162, 163, 164, 165, 166, 21, 167, 168, 169, 170, 171, 25, 172, 173, 174, 175, 176, 177, 16, 178, 46, 47, 179, 180, 181, 182, 44, 45, 183, 184, 185, 186, 48, 49, 50, 51, 52, 53, 54, 55, 187, 188, 189, 190, 191, 192, 193, 194, 195, 196, 197, 198, 199, 200, 201, 202, 203, 204, 205, 206, 207, 208, 209, 210, 211, 212, 213, 214, 215, 216, 217, 218, 219, 220, 221, 222, 223, 224, 225, 226, 227, 228, 229, 230, 231, 232, 233, 234, 235, 236, 237, 238, 239, 240, 241, 242, 243, 244, 245, 246, 247, 248, 249, 250, 251, 252, 253, 254, 255, 256, 257, 258, 259, 260, 261, 262, 263, 264, 265, 266, 267, 268, 269, 270, 271, 272, 273, 274, 275, 276, 277, 278, 279, 280, 281, 282, 283, 284, 285, 286, 287, 288, 289, 290, 291, 292, 293, 294, 295, 296, 297, 298, 299, 300, 301, 302, 303, 304, 305, 306, 307, 308, 309, 310, 311, 312, 313, 314, 315, 316, 317, 318, 319, 320, 321, 322, 323, 324, 325, 326, 327, 328, 329, 330, 331, 332, 333, 334, 335, 336, 337, 338, 339, 340, 341, 342, 343, 344, 345, 346, 347, 348, 349, 350, 351, 352, 353, 354, 355, 356, 357, 358, 359, 360, 361, 362, 363, 364, 365, 366, 367, 368, 369, 370, 371, 372, 373, 374, 375, 376, 377, 378, 379, 380, 381, 382, 383, 384, 385, 386, 387, 388, 389, 390, 61, 391, 392, 393, 394, 395, 396, 397, 398, 399, 400, 401, 402, 403, 404, 405, 406, 407, 408, 409, 410, 411, 412, 413, 414, 415, 416, 417, 418, 419, 420, 421, 422, 423, 424, 425, 426, 427, 428, 429, 430, 431, 432, 433, 434, 435, 436, 437, 438, 439, 440, 441, 442, 443, 444, 445, 446, 447, 448, 449, 450, 451, 452, 453, 454, 455, 456, 457, 458, 459, 460, 461, 462, 463, 464, 465, 33, 466, 467, 468, 469, 470, 471, 472, 473, 474, 475, 476, 477, 478, 479, 480, 481, 482, 483, 484, 485, 31, 486, 487, 488, 489, 490, 491, 492, 30, 493, 494, 495, 496, 497, 498, 499, 74, 500, 501, 502, 503, 504, 505, 506, 507, 508, 509, 510, 511, 512, 513, 514, 515, 516, 517, 518, 519, 520, 521, 522, 523, 524, 525, 526, 527, 528, 529, 530, 531, 532, 533, 534, 535, 536, 537, 538, 539, 540, 541, 18, 542, 543, 544, 545, 546, 547, 548, 549, 550, 551, 552, 553, 554, 555, 556, 557, 558, 559, 560, 561, 562, 563, 564, 565, 566, 567, 568, 569, 570, 571, 572, 573, 574, 68, 575, 576, 577, 578, 579, 580, 581, 582, 583, 584, 628, 629, 630, 631, 660, 661, 662, 663, 664, 665, 666, 667, 668, 669, 670, 671, 672, 673, 686, 687, 688, 689, 690, 674, 675, 676, 677, 678, 679, 680, 681, 682, 683, 684, 685, 691, 692, 693, 694] (by decide +kernel) (by decide +kernel)) (goodIn_sub (fun _ h => List.mem_append_left _ (List.mem_append_left _ (List.mem_append_right _ h))) (by decide +kernel))) (goodIn_sub (fun _ h => List.mem_append_left _ (List.mem_append_right _ h)) (by decide +kernel))) (goodIn_sub (fun _ h => List.mem_append_right _ h) (by decide +kernel))
set_option maxRecDepth 20000 in
theorem gL_law_L_holds : GoodIn wsL_law (va_wsS RL 205 yL_holds wsL_holds) := goodIn_app (goodIn_of _ (by decide +kernel)) ggL_law_L_holds
set_option maxRecDepth 20000 in
theorem ggL_law_L_nights : GoodIn wsL_law wsL_nights := goodIn_ca (goodIn_ca (goodIn_ca (goodIn_r _ [637, 638, 93, 639, 84, 85, 77, 86, 87, 88, 89, 90, 91, 92, 94, 95, 96, 2, 97, 98, 99, 13, 100, 101, 102, 103, 104, 105, 106, 107, 108, 109, 110, 111, 12, 112, 113, 39, 114, 115, 116, 117, 118, 119, 120, 121, 122, 123, 124, 22, 26, 27, 17, 125, 126, 127, 128, 129, 130, 131, 132, 133, 134, 135, 136, 137, 138, 139, 140, 141, 142, 143, 144, 145, 146, 147, 148, 149, 150, 151, 152, 153, 154, 155, 156, 157, 158, 159, 160, 161, 162, 163, 164, 165, 166, 21, 167, 168, 169, 170, 171, 25, 172, 173, 174, 175, 176, 177, 16, 178, 46, 47, 179, 180, 181, 182, 44, 45, 183, 184, 185, 186, 48, 49, 50, 51, 52, 53, 54, 55, 187, 188, 189, 190, 191, 192, 193, 194, 195, 196, 197, 198, 199, 200, 201, 202, 203, 204, 205, 206, 207, 208, 209, 210, 211, 212, 213, 214, 215, 216, 217, 218, 219, 220, 221, 222, 223, 224, 225, 226, 227, 228, 229, 230, 231, 232, 233, 234, 235, 236, 237, 238, 239, 240, 241, 242, 243, 244, 245, 246, 247, 248, 249, 250, 251, 252, 253, 254, 255, 256, 257, 258, 259, 260, 261, 262, 263, 264, 265, 266, 267, 268, 269, 270, 271, 272, 273, 274, 275, 276, 277, 278, 279, 280, 281, 282, 283, 284, 285, 286, 287, 288, 289, 290, 291, 292, 293, 294, 295, 296, 297, 298, 299, 300, 301, 302, 303, 304, 305, 306, 307, 308, 309, 310, 311, 312, 313, 314, 315, 316, 317, 318, 319, 320, 321, 322, 323, 324, 325, 326, 327, 328, 329, 330, 331, 332, 333, 334, 335, 336, 337, 338, 339, 340, 341, 342, 343, 344, 345, 346, 347, 348, 349, 350, 351, 352, 353, 354, 355, 356, 357, 358, 359, 360, 361, 362, 363, 364, 365, 366, 367, 368, 369, 370, 371, 372, 373, 374, 375, 376, 377, 378, 379, 380, 381, 382, 383, 384, 385, 386, 387, 388, 389, 390, 61, 391, 392, 393, 394, 395, 396, 397, 398, 399, 400, 401, 402, 403, 404, 405, 406, 407, 408, 409, 410, 411, 412, 413, 414, 415, 416, 417, 418, 419, 420, 421, 422, 423, 424, 425, 426, 427, 428, 429, 430, 431, 432, 433, 434, 435, 436, 437, 438, 439, 440, 441, 442, 443, 444, 445, 446, 447, 448, 449, 450, 451, 452, 453, 454, 455, 456, 457, 458, 459, 460, 461, 462, 463, 464, 465, 33, 466, 467, 468, 469, 470, 471, 472, 473, 474, 475, 476, 477, 478, 479, 480, 481, 482, 483, 484, 485, 31, 486, 487, 488, 489, 490, 491, 492, 30, 493, 494, 495, 496, 497, 498, 499, 74, 500, 501, 502, 503, 504, 505, 506, 507, 508, 509, 510, 511, 512, 513, 514, 515, 516, 517, 518, 519, 520, 521, 522, 523, 524, 525, 526, 527, 528, 529, 530, 531, 532, 533, 534, 535, 536, 537, 538, 539, 540, 541, 18, 542, 543, 544, 545, 546, 547, 548, 549, 550, 551, 552, 553, 554, 555, 556, 557, 558, 559, 560, 561, 562, 563, 564, 565, 566, 567, 568, 569, 570, 571, 572, 573, 574, 68, 575, 576, 577, 578, 579, 580, 581, 582, 583, 584, 628, 629, 630, 631, 590, 591, 592, 588, 593, 594, 595, 596, 640, 641, 642, 643, 644, 645, 646, 647, 648, 649, 650, 651, 652, 653, 660, 661, 662, 663, 664, 665, 666, 667, 668, 669, 670, 671, 672, 673, 686, 687, 688, 689, 690, 674, 675, 676, 677, 678, 679, 680, 681, 682, 683, 684, 685, 691, 692, 693, 694] (by decide +kernel) (by decide +kernel)) (goodIn_sub (fun _ h => List.mem_append_left _ (List.mem_append_left _ (List.mem_append_right _ h))) (by decide +kernel))) (goodIn_sub (fun _ h => List.mem_append_left _ (List.mem_append_right _ h)) (by decide +kernel))) (goodIn_sub (fun _ h => List.mem_append_right _ h) (by decide +kernel))
set_option maxRecDepth 20000 in
theorem gL_law_L_nights : GoodIn wsL_law (va_wsS RL 209 yL_nights wsL_nights) := goodIn_app (goodIn_of _ (by decide +kernel)) ggL_law_L_nights
set_option maxRecDepth 20000 in
theorem ggL_law_L_scratches : GoodIn wsL_law wsL_scratches := goodIn_ca (goodIn_ca (goodIn_ca (goodIn_r _ [656, 84, 85, 77, 86, 87, 88, 89, 90, 91, 92, 93, 94, 95, 96, 2, 97, 98, 99, 13, 100, 101, 102, 103, 104, 105, 106, 107, 108, 109, 110, 111, 12, 112, 113, 39, 114, 115, 116, 117, 118, 119, 120, 121, 122, 123, 124, 22, 26, 27, 17, 125, 126, 127, 128, 129, 130, 131, 132, 133, 134, 135, 136, 137, 138, 139, 140, 141, 142, 143, 144, 145, 146, 147, 148, 149, 150, 151, 152, 153, 154, 155, 156, 157, 158, 159, 160, 161, 162, 163, 164, 165, 166, 21, 167, 168, 169, 170, 171, 25, 172, 173, 174, 175, 176, 177, 16, 178, 46, 47, 179, 180, 181, 182, 44, 45, 183, 184, 185, 186, 48, 49, 50, 51, 52, 53, 54, 55, 187, 188, 189, 190, 191, 192, 193, 194, 195, 196, 197, 198, 199, 200, 201, 202, 203, 204, 205, 206, 207, 208, 209, 210, 211, 212, 213, 214, 215, 216, 217, 218, 219, 220, 221, 222, 223, 224, 225, 226, 227, 228, 229, 230, 231, 232, 233, 234, 235, 236, 237, 238, 239, 240, 241, 242, 243, 244, 245, 246, 247, 248, 249, 250, 251, 252, 253, 254, 255, 256, 257, 258, 259, 260, 261, 262, 263, 264, 265, 266, 267, 268, 269, 270, 271, 272, 273, 274, 275, 276, 277, 278, 279, 280, 281, 282, 283, 284, 285, 286, 287, 288, 289, 290, 291, 292, 293, 294, 295, 296, 297, 298, 299, 300, 301, 302, 303, 304, 305, 306, 307, 308, 309, 310, 311, 312, 313, 314, 315, 316, 317, 318, 319, 320, 321, 322, 323, 324, 325, 326, 327, 328, 329, 330, 331, 332, 333, 334, 335, 336, 337, 338, 339, 340, 341, 342, 343, 344, 345, 346, 347, 348, 349, 350, 351, 352, 353, 354, 355, 356, 357, 358, 359, 360, 361, 362, 363, 364, 365, 366, 367, 368, 369, 370, 371, 372, 373, 374, 375, 376, 377, 378, 379, 380, 381, 382, 383, 384, 385, 386, 387, 388, 389, 390, 61, 391, 392, 393, 394, 395, 396, 397, 398, 399, 400, 401, 402, 403, 404, 405, 406, 407, 408, 409, 410, 411, 412, 413, 414, 415, 416, 417, 418, 419, 420, 421, 422, 423, 424, 425, 426, 427, 428, 429, 430, 431, 432, 433, 434, 435, 436, 437, 438, 439, 440, 441, 442, 443, 444, 445, 446, 447, 448, 449, 450, 451, 452, 453, 454, 455, 456, 457, 458, 459, 460, 461, 462, 463, 464, 465, 33, 466, 467, 468, 469, 470, 471, 472, 473, 474, 475, 476, 477, 478, 479, 480, 481, 482, 483, 484, 485, 31, 486, 487, 488, 489, 490, 491, 492, 30, 493, 494, 495, 496, 497, 498, 499, 74, 500, 501, 502, 503, 504, 505, 506, 507, 508, 509, 510, 511, 512, 513, 514, 515, 516, 517, 518, 519, 520, 521, 522, 523, 524, 525, 526, 527, 528, 529, 530, 531, 532, 533, 534, 535, 536, 537, 538, 539, 540, 541, 18, 542, 543, 544, 545, 546, 547, 548, 549, 550, 551, 552, 553, 554, 555, 556, 557, 558, 559, 560, 561, 562, 563, 564, 565, 566, 567, 568, 569, 570, 571, 572, 573, 574, 68, 575, 576, 577, 578, 579, 580, 581, 582, 583, 584, 657, 658, 659, 590, 591, 592, 588, 593, 594, 595, 596, 640, 641, 642, 660, 661, 662, 663, 664, 665, 666, 667, 668, 669, 670, 671, 672, 673, 686, 687, 688, 689, 690, 674, 675, 676, 677, 678, 679, 680, 681, 682, 683, 684, 685, 691, 692, 693, 694] (by decide +kernel) (by decide +kernel)) (goodIn_sub (fun _ h => List.mem_append_left _ (List.mem_append_left _ (List.mem_append_right _ h))) (by decide +kernel))) (goodIn_sub (fun _ h => List.mem_append_left _ (List.mem_append_right _ h)) (by decide +kernel))) (goodIn_sub (fun _ h => List.mem_append_right _ h) (by decide +kernel))
set_option maxRecDepth 20000 in
theorem gL_law_L_scratches : GoodIn wsL_law (va_wsS RL 211 yL_scratches wsL_scratches) := goodIn_app (goodIn_of _ (by decide +kernel)) ggL_law_L_scratches
theorem dL_law_0 : decode cL_law 0 = .ok (.new 8, 3) := by decide +kernel
theorem dL_law_3 : decode cL_law 3 = .ok (.dup, 1) := by decide +kernel
theorem dL_law_4 : decode cL_law 4 = .ok (.invokespecial 189, 3) := by decide +kernel
theorem dL_law_7 : decode cL_law 7 = .ok (.astore_n 1, 1) := by decide +kernel
theorem dL_law_8 : decode cL_law 8 = .ok (.new 8, 3) := by decide +kernel
theorem dL_law_11 : decode cL_law 11 = .ok (.dup, 1) := by decide +kernel
theorem dL_law_12 : decode cL_law 12 = .ok (.invokespecial 189, 3) := by decide +kernel
theorem dL_law_15 : decode cL_law 15 = .ok (.astore_n 2, 1) := by decide +kernel
theorem dL_law_16 : decode cL_law 16 = .ok (.bipush 8, 2) := by decide +kernel
theorem dL_law_18 : decode cL_law 18 = .ok (.aload_n 0, 1) := by decide +kernel
theorem dL_law_19 : decode cL_law 19 = .ok (.iconst 0, 1) := by decide +kernel
theorem dL_law_20 : decode cL_law 20 = .ok (.invokestatic 190, 3) := by decide +kernel
theorem dL_law_23 : decode cL_law 23 = .ok (.bipush 19, 2) := by decide +kernel
theorem dL_law_25 : decode cL_law 25 = .ok (.irem, 1) := by decide +kernel
theorem dL_law_26 : decode cL_law 26 = .ok (.iadd, 1) := by decide +kernel
theorem dL_law_27 : decode cL_law 27 = .ok (.istore_n 3, 1) := by decide +kernel
theorem dL_law_28 : decode cL_law 28 = .ok (.iconst 1, 1) := by decide +kernel
theorem dL_law_29 : decode cL_law 29 = .ok (.istore 4, 2) := by decide +kernel
theorem dL_law_31 : decode cL_law 31 = .ok (.iconst 0, 1) := by decide +kernel
theorem dL_law_32 : decode cL_law 32 = .ok (.istore 5, 2) := by decide +kernel
theorem dL_law_34 : decode cL_law 34 = .ok (.iload 5, 2) := by decide +kernel
theorem dL_law_36 : decode cL_law 36 = .ok (.iload_n 3, 1) := by decide +kernel
theorem dL_law_37 : decode cL_law 37 = .ok (.if_icmp .ge 146, 3) := by decide +kernel
theorem dL_law_40 : decode cL_law 40 = .ok (.iload 4, 2) := by decide +kernel
theorem dL_law_42 : decode cL_law 42 = .ok (.ifCond .eq 141, 3) := by decide +kernel
theorem dL_law_45 : decode cL_law 45 = .ok (.aload_n 0, 1) := by decide +kernel
theorem dL_law_46 : decode cL_law 46 = .ok (.iconst 1, 1) := by decide +kernel
theorem dL_law_47 : decode cL_law 47 = .ok (.iload 5, 2) := by decide +kernel
theorem dL_law_49 : decode cL_law 49 = .ok (.iadd, 1) := by decide +kernel
theorem dL_law_50 : decode cL_law 50 = .ok (.invokestatic 190, 3) := by decide +kernel
theorem dL_law_53 : decode cL_law 53 = .ok (.istore 6, 2) := by decide +kernel
theorem dL_law_55 : decode cL_law 55 = .ok (.aload_n 1, 1) := by decide +kernel
theorem dL_law_56 : decode cL_law 56 = .ok (.iload 6, 2) := by decide +kernel
theorem dL_law_58 : decode cL_law 58 = .ok (.invokestatic 193, 3) := by decide +kernel
theorem dL_law_61 : decode cL_law 61 = .ok (.istore 7, 2) := by decide +kernel
theorem dL_law_63 : decode cL_law 63 = .ok (.aload_n 2, 1) := by decide +kernel
theorem dL_law_64 : decode cL_law 64 = .ok (.iload 6, 2) := by decide +kernel
theorem dL_law_66 : decode cL_law 66 = .ok (.ldc 196, 2) := by decide +kernel
theorem dL_law_68 : decode cL_law 68 = .ok (.irem, 1) := by decide +kernel
theorem dL_law_69 : decode cL_law 69 = .ok (.invokestatic 197, 3) := by decide +kernel
theorem dL_law_72 : decode cL_law 72 = .ok (.ifCond .eq 102, 3) := by decide +kernel
theorem dL_law_75 : decode cL_law 75 = .ok (.aload_n 2, 1) := by decide +kernel
theorem dL_law_76 : decode cL_law 76 = .ok (.iload 6, 2) := by decide +kernel
theorem dL_law_78 : decode cL_law 78 = .ok (.invokestatic 193, 3) := by decide +kernel
theorem dL_law_81 : decode cL_law 81 = .ok (.iload 7, 2) := by decide +kernel
theorem dL_law_83 : decode cL_law 83 = .ok (.if_icmp .ne 91, 3) := by decide +kernel
theorem dL_law_86 : decode cL_law 86 = .ok (.aload_n 2, 1) := by decide +kernel
theorem dL_law_87 : decode cL_law 87 = .ok (.iload 6, 2) := by decide +kernel
theorem dL_law_89 : decode cL_law 89 = .ok (.sipush 1000, 3) := by decide +kernel
theorem dL_law_92 : decode cL_law 92 = .ok (.irem, 1) := by decide +kernel
theorem dL_law_93 : decode cL_law 93 = .ok (.invokestatic 197, 3) := by decide +kernel
theorem dL_law_96 : decode cL_law 96 = .ok (.ifCond .eq 78, 3) := by decide +kernel
theorem dL_law_99 : decode cL_law 99 = .ok (.aload_n 1, 1) := by decide +kernel
theorem dL_law_100 : decode cL_law 100 = .ok (.aload_n 2, 1) := by decide +kernel
theorem dL_law_101 : decode cL_law 101 = .ok (.iload 6, 2) := by decide +kernel
theorem dL_law_103 : decode cL_law 103 = .ok (.sipush 5000, 3) := by decide +kernel
theorem dL_law_106 : decode cL_law 106 = .ok (.irem, 1) := by decide +kernel
theorem dL_law_107 : decode cL_law 107 = .ok (.invokestatic 201, 3) := by decide +kernel
theorem dL_law_110 : decode cL_law 110 = .ok (.ifCond .eq 64, 3) := by decide +kernel
theorem dL_law_113 : decode cL_law 113 = .ok (.iload 5, 2) := by decide +kernel
theorem dL_law_115 : decode cL_law 115 = .ok (.iconst 2, 1) := by decide +kernel
theorem dL_law_116 : decode cL_law 116 = .ok (.irem, 1) := by decide +kernel
theorem dL_law_117 : decode cL_law 117 = .ok (.ifCond .ne 13, 3) := by decide +kernel
theorem dL_law_120 : decode cL_law 120 = .ok (.aload_n 1, 1) := by decide +kernel
theorem dL_law_121 : decode cL_law 121 = .ok (.invokestatic 205, 3) := by decide +kernel
theorem dL_law_124 : decode cL_law 124 = .ok (.ifCond .eq 50, 3) := by decide +kernel
theorem dL_law_127 : decode cL_law 127 = .ok (.goto 10, 3) := by decide +kernel
theorem dL_law_130 : decode cL_law 130 = .ok (.aload_n 2, 1) := by decide +kernel
theorem dL_law_131 : decode cL_law 131 = .ok (.invokestatic 205, 3) := by decide +kernel
theorem dL_law_134 : decode cL_law 134 = .ok (.ifCond .eq 40, 3) := by decide +kernel
theorem dL_law_137 : decode cL_law 137 = .ok (.aload_n 1, 1) := by decide +kernel
theorem dL_law_138 : decode cL_law 138 = .ok (.aload_n 2, 1) := by decide +kernel
theorem dL_law_139 : decode cL_law 139 = .ok (.iload 6, 2) := by decide +kernel
theorem dL_law_141 : decode cL_law 141 = .ok (.bipush 7, 2) := by decide +kernel
theorem dL_law_143 : decode cL_law 143 = .ok (.idiv, 1) := by decide +kernel
theorem dL_law_144 : decode cL_law 144 = .ok (.invokestatic 209, 3) := by decide +kernel
theorem dL_law_147 : decode cL_law 147 = .ok (.ifCond .eq 27, 3) := by decide +kernel
theorem dL_law_150 : decode cL_law 150 = .ok (.iload 5, 2) := by decide +kernel
theorem dL_law_152 : decode cL_law 152 = .ok (.iconst 3, 1) := by decide +kernel
theorem dL_law_153 : decode cL_law 153 = .ok (.irem, 1) := by decide +kernel
theorem dL_law_154 : decode cL_law 154 = .ok (.ifCond .gt 16, 3) := by decide +kernel
theorem dL_law_157 : decode cL_law 157 = .ok (.aload_n 1, 1) := by decide +kernel
theorem dL_law_158 : decode cL_law 158 = .ok (.aload_n 2, 1) := by decide +kernel
theorem dL_law_159 : decode cL_law 159 = .ok (.iload 6, 2) := by decide +kernel
theorem dL_law_161 : decode cL_law 161 = .ok (.bipush 11, 2) := by decide +kernel
theorem dL_law_163 : decode cL_law 163 = .ok (.idiv, 1) := by decide +kernel
theorem dL_law_164 : decode cL_law 164 = .ok (.invokestatic 211, 3) := by decide +kernel
theorem dL_law_167 : decode cL_law 167 = .ok (.ifCond .eq 7, 3) := by decide +kernel
theorem dL_law_170 : decode cL_law 170 = .ok (.iconst 1, 1) := by decide +kernel
theorem dL_law_171 : decode cL_law 171 = .ok (.goto 4, 3) := by decide +kernel
theorem dL_law_174 : decode cL_law 174 = .ok (.iconst 0, 1) := by decide +kernel
theorem dL_law_175 : decode cL_law 175 = .ok (.istore 4, 2) := by decide +kernel
theorem dL_law_177 : decode cL_law 177 = .ok (.iinc 5 1, 3) := by decide +kernel
theorem dL_law_180 : decode cL_law 180 = .ok (.goto (-146), 3) := by decide +kernel
theorem dL_law_183 : decode cL_law 183 = .ok (.iload 4, 2) := by decide +kernel
theorem dL_law_185 : decode cL_law 185 = .ok (.ireturn, 1) := by decide +kernel
set_option maxRecDepth 20000 in
theorem ggL_nights_L_call : GoodIn wsL_nights wsL_call := goodIn_ca (goodIn_ca (goodIn_ca (goodIn_r _ [7, 8, 9, 6, 10, 11, 12, 13, 2, 14, 15, 16, 17, 18, 19, 20, 21, 22, 23, 24, 25, 26, 27, 28, 29, 30, 31, 32, 33, 34, 35, 36, 37, 38, 39, 40, 41, 42, 43, 44, 45, 46, 47, 48, 49, 50, 51, 52, 53, 54, 55, 56, 57, 58, 59, 60, 61, 62, 63, 64, 65, 66, 67, 68, 69, 70, 71, 72, 73, 74, 75, 76, 77, 78, 79, 80, 81, 82, 83, 84, 85, 86, 87, 88, 89, 90, 91, 92, 93, 94, 95, 96, 97, 98, 99, 100, 101, 102, 103, 104, 105, 106, 107, 108, 109, 110, 111, 112, 113, 114, 115, 116, 117, 118, 119, 120, 121, 122, 123, 124, 125, 126, 127, 128, 129, 130, 131, 132, 133, 134, 135, 136, 137, 138, 139, 140, 141, 142, 143, 144, 145, 146, 147, 148, 149, 150, 151, 152, 153, 154, 155, 156, 157, 158, 159, 160, 161, 162, 163, 164, 165, 166, 167, 168, 169, 170, 171, 172, 173, 174, 175, 176, 177, 178, 179, 180, 181, 182, 183, 184, 185, 186, 187, 188, 189, 190, 191, 192, 193, 194, 195, 196, 197, 198, 199, 200, 201, 202, 203, 204, 205, 206, 207, 208, 209, 210, 211, 212, 213, 214, 215, 216, 217, 218, 219, 220, 221, 222, 223, 224, 225, 226, 227, 228, 229, 230, 231, 232, 233, 234, 235, 236, 237, 238, 239, 240, 241, 242, 243, 244, 245, 246, 247, 248, 249, 250, 251, 252, 253, 254, 255, 256, 257, 258, 259, 260, 261, 262, 263, 264, 265, 266, 267, 268, 269, 270, 271, 272, 273, 274, 275, 276, 277, 278, 279, 280, 281, 282, 283, 284, 285, 286, 287, 288, 289, 290, 291, 292, 293, 294, 295, 296, 297, 298, 299, 300, 301, 302, 303, 304, 305, 306, 307, 308, 309, 310, 311, 312, 313, 314, 315, 316, 317, 318, 319, 320, 321, 322, 323, 324, 325, 326, 327, 328, 329, 330, 331, 332, 333, 334, 335, 336, 337, 338, 339, 340, 341, 342, 343, 344, 345, 346, 347, 348, 349, 350, 351, 352, 353, 354, 355, 356, 357, 358, 359, 360, 361, 362, 363, 364, 365, 366, 367, 368, 369, 370, 371, 372, 373, 374, 375, 376, 377, 378, 379, 380, 381, 382, 383, 384, 385, 386, 387, 388, 389, 390, 391, 392, 393, 394, 395, 396, 397, 398, 399, 400, 401, 402, 403, 404, 405, 406, 407, 408, 409, 410, 411, 412, 413, 414, 415, 416, 417, 418, 419, 420, 421, 422, 423, 424, 425, 426, 427, 428, 429, 430, 431, 432, 433, 434, 435, 436, 437, 438, 439, 440, 441, 442, 443, 444, 445, 446, 447, 448, 449, 450, 451, 452, 453, 454, 455, 456, 457, 458, 459, 460, 461, 462, 463, 464, 465, 466, 467, 468, 469, 470, 471, 472, 473, 474, 475, 476, 477, 478, 479, 480, 481, 482, 483, 484, 485, 486, 487, 488, 489, 490, 491, 492, 493, 494, 495, 496, 497, 498, 499, 500, 501, 502, 503, 504, 505, 506, 507, 508, 509, 510, 511, 512, 513, 514, 515, 516, 517, 518, 519, 520, 521, 522, 523, 524, 525, 526, 527, 528, 529, 530, 531, 532, 533, 534, 561, 562, 563, 564, 565, 566, 567, 568, 569, 570, 571, 572, 573, 574, 575, 576, 577, 578, 579, 580, 581, 582, 583, 584, 585, 586, 587, 588, 589, 590, 591, 592, 593, 594, 595] (by decide +kernel) (by decide +kernel)) (goodIn_sub (fun _ h => List.mem_cons_of_mem _ (List.mem_append_left _ (List.mem_append_left _ (List.mem_append_right _ h)))) (by decide +kernel))) (goodIn_sub (fun _ h => List.mem_cons_of_mem _ (List.mem_append_left _ (List.mem_append_right _ h))) (by decide +kernel))) (goodIn_sub (fun _ h => List.mem_cons_of_mem _ (List.mem_append_right _ h)) (by decide +kernel))
set_option maxRecDepth 20000 in
theorem gL_nights_L_call : GoodIn wsL_nights (va_wsS RL 168 yL_call wsL_call) := goodIn_app (goodIn_of _ (by decide +kernel)) ggL_nights_L_call
set_option maxRecDepth 20000 in
theorem ggL_nights_X5_frozen : GoodIn wsL_nights wsX5_frozen := goodIn_r _ [538, 52, 246, 561, 562, 563, 564, 565, 566, 567, 568, 580, 581, 582, 583, 584, 585, 586, 587, 588, 589, 590, 591] (by decide +kernel) (by decide +kernel)
set_option maxRecDepth 20000 in
theorem gL_nights_X5_frozen : GoodIn wsL_nights (wsV RL 186 RX5 yX5_frozen wsX5_frozen) := goodIn_app (goodIn_of _ (by decide +kernel)) ggL_nights_X5_frozen
set_option maxRecDepth 20000 in
theorem ggL_nights_L_looks : GoodIn wsL_nights wsL_looks := goodIn_ca (goodIn_r _ [541, 11, 542, 543, 544, 545, 17, 546, 52, 246, 22, 23, 24, 25, 26, 27, 28, 29, 30, 411, 230, 231, 108, 232, 110, 233, 234, 235, 236, 165, 166, 167, 168, 119, 198, 199, 200, 201, 121, 193, 120, 202, 203, 204, 205, 127, 117, 116, 206, 207, 208, 209, 128, 210, 211, 212, 213, 126, 214, 215, 216, 217, 129, 157, 158, 159, 160, 561, 562, 563, 564, 565, 566, 567, 568, 580, 581, 582, 583, 584, 585, 586, 587, 588, 589, 590, 591] (by decide +kernel) (by decide +kernel)) (goodIn_sub (fun _ h => List.mem_cons_of_mem _ (List.mem_append_left _ (List.mem_append_right _ h))) (by decide +kernel))
set_option maxRecDepth 20000 in
theorem gL_nights_L_looks : GoodIn wsL_nights (va_wsS RL 172 yL_looks wsL_looks) := goodIn_app (goodIn_of _ (by decide +kernel)) ggL_nights_L_looks
set_option maxRecDepth 20000 in
theorem ggL_nights_L_thrown : GoodIn wsL_nights wsL_thrown := goodIn_r _ [549, 274, 13, 2] (by decide +kernel) (by decide +kernel)
set_option maxRecDepth 20000 in
theorem gL_nights_L_thrown : GoodIn wsL_nights (va_wsS RL 214 yL_thrown wsL_thrown) := goodIn_app (goodIn_of _ (by decide +kernel)) ggL_nights_L_thrown
set_option maxRecDepth 20000 in
theorem ggL_nights_L_was : GoodIn wsL_nights wsL_was := goodIn_ca (goodIn_r _ [552, 12, 3, 553, 554, 555, 17, 556, 431, 52, 432, 433, 434, 435, 19, 20, 247, 436, 437, 438, 439, 440, 441, 442, 443, 444, 445, 446, 447, 448, 328, 268, 329, 449, 450, 451, 230, 231, 108, 232, 110, 233, 234, 235, 236, 165, 166, 167, 168, 119, 198, 199, 200, 201, 121, 193, 120, 202, 203, 204, 205, 127, 117, 116, 206, 207, 208, 209, 128, 210, 211, 212, 213, 126, 214, 215, 216, 217, 129, 157, 158, 159, 160, 452, 341, 342, 343, 453, 454, 455, 456, 147, 148, 457, 458, 459, 460, 461, 462, 463, 464, 465, 466, 467, 468, 469, 557, 558, 559, 560, 561, 562, 563, 564, 565, 566, 567, 568, 580, 581, 582, 583, 584, 585, 586, 587, 588, 589, 590, 591, 592, 593, 594, 595] (by decide +kernel) (by decide +kernel)) (goodIn_sub (fun _ h => List.mem_cons_of_mem _ (List.mem_append_left _ (List.mem_append_left _ (List.mem_append_right _ h)))) (by decide +kernel))
set_option maxRecDepth 20000 in
theorem gL_nights_L_was : GoodIn wsL_nights (va_wsS RL 218 yL_was wsL_was) := goodIn_app (goodIn_of _ (by decide +kernel)) ggL_nights_L_was
theorem dL_nights_0 : decode cL_nights 0 = .ok (.aload_n 0, 1) := by decide +kernel
theorem dL_nights_1 : decode cL_nights 1 = .ok (.iconst 2, 1) := by decide +kernel
theorem dL_nights_2 : decode cL_nights 2 = .ok (.iconst 0, 1) := by decide +kernel
theorem dL_nights_3 : decode cL_nights 3 = .ok (.iconst 0, 1) := by decide +kernel
theorem dL_nights_4 : decode cL_nights 4 = .ok (.iconst 0, 1) := by decide +kernel
theorem dL_nights_5 : decode cL_nights 5 = .ok (.invokestatic 168, 3) := by decide +kernel
theorem dL_nights_8 : decode cL_nights 8 = .ok (.aload_n 0, 1) := by decide +kernel
theorem dL_nights_9 : decode cL_nights 9 = .ok (.iconst 2, 1) := by decide +kernel
theorem dL_nights_10 : decode cL_nights 10 = .ok (.iconst 1, 1) := by decide +kernel
theorem dL_nights_11 : decode cL_nights 11 = .ok (.iconst 0, 1) := by decide +kernel
theorem dL_nights_12 : decode cL_nights 12 = .ok (.iconst 0, 1) := by decide +kernel
theorem dL_nights_13 : decode cL_nights 13 = .ok (.invokestatic 168, 3) := by decide +kernel
theorem dL_nights_16 : decode cL_nights 16 = .ok (.imul, 1) := by decide +kernel
theorem dL_nights_17 : decode cL_nights 17 = .ok (.istore_n 3, 1) := by decide +kernel
theorem dL_nights_18 : decode cL_nights 18 = .ok (.iconst 1, 1) := by decide +kernel
theorem dL_nights_19 : decode cL_nights 19 = .ok (.iload_n 2, 1) := by decide +kernel
theorem dL_nights_20 : decode cL_nights 20 = .ok (.bipush 20, 2) := by decide +kernel
theorem dL_nights_22 : decode cL_nights 22 = .ok (.irem, 1) := by decide +kernel
theorem dL_nights_23 : decode cL_nights 23 = .ok (.iadd, 1) := by decide +kernel
theorem dL_nights_24 : decode cL_nights 24 = .ok (.istore 4, 2) := by decide +kernel
theorem dL_nights_26 : decode cL_nights 26 = .ok (.iload_n 2, 1) := by decide +kernel
theorem dL_nights_27 : decode cL_nights 27 = .ok (.bipush 20, 2) := by decide +kernel
theorem dL_nights_29 : decode cL_nights 29 = .ok (.idiv, 1) := by decide +kernel
theorem dL_nights_30 : decode cL_nights 30 = .ok (.iload_n 3, 1) := by decide +kernel
theorem dL_nights_31 : decode cL_nights 31 = .ok (.irem, 1) := by decide +kernel
theorem dL_nights_32 : decode cL_nights 32 = .ok (.istore 5, 2) := by decide +kernel
theorem dL_nights_34 : decode cL_nights 34 = .ok (.aload_n 0, 1) := by decide +kernel
theorem dL_nights_35 : decode cL_nights 35 = .ok (.invokevirtual 186, 3) := by decide +kernel
theorem dL_nights_38 : decode cL_nights 38 = .ok (.lstore 6, 2) := by decide +kernel
theorem dL_nights_40 : decode cL_nights 40 = .ok (.aload_n 0, 1) := by decide +kernel
theorem dL_nights_41 : decode cL_nights 41 = .ok (.iload 4, 2) := by decide +kernel
theorem dL_nights_43 : decode cL_nights 43 = .ok (.invokestatic 172, 3) := by decide +kernel
theorem dL_nights_46 : decode cL_nights 46 = .ok (.lstore 8, 2) := by decide +kernel
theorem dL_nights_48 : decode cL_nights 48 = .ok (.aload_n 0, 1) := by decide +kernel
theorem dL_nights_49 : decode cL_nights 49 = .ok (.iconst 1, 1) := by decide +kernel
theorem dL_nights_50 : decode cL_nights 50 = .ok (.invokestatic 172, 3) := by decide +kernel
theorem dL_nights_53 : decode cL_nights 53 = .ok (.lstore 10, 2) := by decide +kernel
theorem dL_nights_55 : decode cL_nights 55 = .ok (.aload_n 0, 1) := by decide +kernel
theorem dL_nights_56 : decode cL_nights 56 = .ok (.bipush 16, 2) := by decide +kernel
theorem dL_nights_58 : decode cL_nights 58 = .ok (.iload 5, 2) := by decide +kernel
theorem dL_nights_60 : decode cL_nights 60 = .ok (.iconst 0, 1) := by decide +kernel
theorem dL_nights_61 : decode cL_nights 61 = .ok (.iconst 0, 1) := by decide +kernel
theorem dL_nights_62 : decode cL_nights 62 = .ok (.invokestatic 168, 3) := by decide +kernel
theorem dL_nights_65 : decode cL_nights 65 = .ok (.istore 12, 2) := by decide +kernel
theorem dL_nights_67 : decode cL_nights 67 = .ok (.aload_n 0, 1) := by decide +kernel
theorem dL_nights_68 : decode cL_nights 68 = .ok (.bipush 14, 2) := by decide +kernel
theorem dL_nights_70 : decode cL_nights 70 = .ok (.iconst 0, 1) := by decide +kernel
theorem dL_nights_71 : decode cL_nights 71 = .ok (.iconst 0, 1) := by decide +kernel
theorem dL_nights_72 : decode cL_nights 72 = .ok (.iconst 0, 1) := by decide +kernel
theorem dL_nights_73 : decode cL_nights 73 = .ok (.invokestatic 168, 3) := by decide +kernel
theorem dL_nights_76 : decode cL_nights 76 = .ok (.istore 13, 2) := by decide +kernel
theorem dL_nights_78 : decode cL_nights 78 = .ok (.aload_n 0, 1) := by decide +kernel
theorem dL_nights_79 : decode cL_nights 79 = .ok (.bipush 14, 2) := by decide +kernel
theorem dL_nights_81 : decode cL_nights 81 = .ok (.iconst 1, 1) := by decide +kernel
theorem dL_nights_82 : decode cL_nights 82 = .ok (.iconst 0, 1) := by decide +kernel
theorem dL_nights_83 : decode cL_nights 83 = .ok (.iconst 0, 1) := by decide +kernel
theorem dL_nights_84 : decode cL_nights 84 = .ok (.invokestatic 168, 3) := by decide +kernel
theorem dL_nights_87 : decode cL_nights 87 = .ok (.istore 14, 2) := by decide +kernel
theorem dL_nights_89 : decode cL_nights 89 = .ok (.iload 13, 2) := by decide +kernel
theorem dL_nights_91 : decode cL_nights 91 = .ok (.iconst (-1), 1) := by decide +kernel
theorem dL_nights_92 : decode cL_nights 92 = .ok (.if_icmp .ne 7, 3) := by decide +kernel
theorem dL_nights_95 : decode cL_nights 95 = .ok (.iconst 1, 1) := by decide +kernel
theorem dL_nights_96 : decode cL_nights 96 = .ok (.goto 4, 3) := by decide +kernel
theorem dL_nights_99 : decode cL_nights 99 = .ok (.iconst 0, 1) := by decide +kernel
theorem dL_nights_100 : decode cL_nights 100 = .ok (.iload 14, 2) := by decide +kernel
theorem dL_nights_102 : decode cL_nights 102 = .ok (.iconst (-1), 1) := by decide +kernel
theorem dL_nights_103 : decode cL_nights 103 = .ok (.if_icmp .ne 7, 3) := by decide +kernel
theorem dL_nights_106 : decode cL_nights 106 = .ok (.iconst 1, 1) := by decide +kernel
theorem dL_nights_107 : decode cL_nights 107 = .ok (.goto 4, 3) := by decide +kernel
theorem dL_nights_110 : decode cL_nights 110 = .ok (.iconst 0, 1) := by decide +kernel
theorem dL_nights_111 : decode cL_nights 111 = .ok (.if_icmp .ne 58, 3) := by decide +kernel
theorem dL_nights_114 : decode cL_nights 114 = .ok (.iload 13, 2) := by decide +kernel
theorem dL_nights_116 : decode cL_nights 116 = .ok (.iconst (-1), 1) := by decide +kernel
theorem dL_nights_117 : decode cL_nights 117 = .ok (.if_icmp .eq 48, 3) := by decide +kernel
theorem dL_nights_120 : decode cL_nights 120 = .ok (.iload 14, 2) := by decide +kernel
theorem dL_nights_122 : decode cL_nights 122 = .ok (.ifCond .le 47, 3) := by decide +kernel
theorem dL_nights_125 : decode cL_nights 125 = .ok (.iload 13, 2) := by decide +kernel
theorem dL_nights_127 : decode cL_nights 127 = .ok (.iload 14, 2) := by decide +kernel
theorem dL_nights_129 : decode cL_nights 129 = .ok (.iadd, 1) := by decide +kernel
theorem dL_nights_130 : decode cL_nights 130 = .ok (.sipush 200, 3) := by decide +kernel
theorem dL_nights_133 : decode cL_nights 133 = .ok (.if_icmp .gt 32, 3) := by decide +kernel
theorem dL_nights_136 : decode cL_nights 136 = .ok (.aload_n 0, 1) := by decide +kernel
theorem dL_nights_137 : decode cL_nights 137 = .ok (.iload 13, 2) := by decide +kernel
theorem dL_nights_139 : decode cL_nights 139 = .ok (.iload 14, 2) := by decide +kernel
theorem dL_nights_141 : decode cL_nights 141 = .ok (.iadd, 1) := by decide +kernel
theorem dL_nights_142 : decode cL_nights 142 = .ok (.invokestatic 172, 3) := by decide +kernel
theorem dL_nights_145 : decode cL_nights 145 = .ok (.iload 13, 2) := by decide +kernel
theorem dL_nights_147 : decode cL_nights 147 = .ok (.ifCond .ne 8, 3) := by decide +kernel
theorem dL_nights_150 : decode cL_nights 150 = .ok (.lload 6, 2) := by decide +kernel
theorem dL_nights_152 : decode cL_nights 152 = .ok (.goto 9, 3) := by decide +kernel
theorem dL_nights_155 : decode cL_nights 155 = .ok (.aload_n 0, 1) := by decide +kernel
theorem dL_nights_156 : decode cL_nights 156 = .ok (.iload 13, 2) := by decide +kernel
theorem dL_nights_158 : decode cL_nights 158 = .ok (.invokestatic 172, 3) := by decide +kernel
theorem dL_nights_161 : decode cL_nights 161 = .ok (.lcmp, 1) := by decide +kernel
theorem dL_nights_162 : decode cL_nights 162 = .ok (.ifCond .ne 7, 3) := by decide +kernel
theorem dL_nights_165 : decode cL_nights 165 = .ok (.iconst 1, 1) := by decide +kernel
theorem dL_nights_166 : decode cL_nights 166 = .ok (.goto 4, 3) := by decide +kernel
theorem dL_nights_169 : decode cL_nights 169 = .ok (.iconst 0, 1) := by decide +kernel
theorem dL_nights_170 : decode cL_nights 170 = .ok (.istore 15, 2) := by decide +kernel
theorem dL_nights_172 : decode cL_nights 172 = .ok (.iload 15, 2) := by decide +kernel
theorem dL_nights_174 : decode cL_nights 174 = .ok (.ifCond .eq 123, 3) := by decide +kernel
theorem dL_nights_177 : decode cL_nights 177 = .ok (.aload_n 0, 1) := by decide +kernel
theorem dL_nights_178 : decode cL_nights 178 = .ok (.bipush 12, 2) := by decide +kernel
theorem dL_nights_180 : decode cL_nights 180 = .ok (.iload 4, 2) := by decide +kernel
theorem dL_nights_182 : decode cL_nights 182 = .ok (.iconst 0, 1) := by decide +kernel
theorem dL_nights_183 : decode cL_nights 183 = .ok (.iconst 0, 1) := by decide +kernel
theorem dL_nights_184 : decode cL_nights 184 = .ok (.invokestatic 168, 3) := by decide +kernel
theorem dL_nights_187 : decode cL_nights 187 = .ok (.aload_n 1, 1) := by decide +kernel
theorem dL_nights_188 : decode cL_nights 188 = .ok (.bipush 12, 2) := by decide +kernel
theorem dL_nights_190 : decode cL_nights 190 = .ok (.iload 4, 2) := by decide +kernel
theorem dL_nights_192 : decode cL_nights 192 = .ok (.iconst 0, 1) := by decide +kernel
theorem dL_nights_193 : decode cL_nights 193 = .ok (.iconst 0, 1) := by decide +kernel
theorem dL_nights_194 : decode cL_nights 194 = .ok (.invokestatic 168, 3) := by decide +kernel
theorem dL_nights_197 : decode cL_nights 197 = .ok (.if_icmp .ne 100, 3) := by decide +kernel
theorem dL_nights_200 : decode cL_nights 200 = .ok (.aload_n 0, 1) := by decide +kernel
theorem dL_nights_201 : decode cL_nights 201 = .ok (.invokevirtual 186, 3) := by decide +kernel
theorem dL_nights_204 : decode cL_nights 204 = .ok (.lload 8, 2) := by decide +kernel
theorem dL_nights_206 : decode cL_nights 206 = .ok (.lcmp, 1) := by decide +kernel
theorem dL_nights_207 : decode cL_nights 207 = .ok (.ifCond .ne 90, 3) := by decide +kernel
theorem dL_nights_210 : decode cL_nights 210 = .ok (.iload 12, 2) := by decide +kernel
theorem dL_nights_212 : decode cL_nights 212 = .ok (.iload 4, 2) := by decide +kernel
theorem dL_nights_214 : decode cL_nights 214 = .ok (.if_icmp .ne 15, 3) := by decide +kernel
theorem dL_nights_217 : decode cL_nights 217 = .ok (.lload 8, 2) := by decide +kernel
theorem dL_nights_219 : decode cL_nights 219 = .ok (.iload 5, 2) := by decide +kernel
theorem dL_nights_221 : decode cL_nights 221 = .ok (.lshr, 1) := by decide +kernel
theorem dL_nights_222 : decode cL_nights 222 = .ok (.lconst 1, 1) := by decide +kernel
theorem dL_nights_223 : decode cL_nights 223 = .ok (.land, 1) := by decide +kernel
theorem dL_nights_224 : decode cL_nights 224 = .ok (.lconst 1, 1) := by decide +kernel
theorem dL_nights_225 : decode cL_nights 225 = .ok (.lcmp, 1) := by decide +kernel
theorem dL_nights_226 : decode cL_nights 226 = .ok (.ifCond .ne 71, 3) := by decide +kernel
theorem dL_nights_229 : decode cL_nights 229 = .ok (.iload 12, 2) := by decide +kernel
theorem dL_nights_231 : decode cL_nights 231 = .ok (.ifCond .lt 10, 3) := by decide +kernel
theorem dL_nights_234 : decode cL_nights 234 = .ok (.iload 12, 2) := by decide +kernel
theorem dL_nights_236 : decode cL_nights 236 = .ok (.iload 4, 2) := by decide +kernel
theorem dL_nights_238 : decode cL_nights 238 = .ok (.if_icmp .le 15, 3) := by decide +kernel
theorem dL_nights_241 : decode cL_nights 241 = .ok (.lload 8, 2) := by decide +kernel
theorem dL_nights_243 : decode cL_nights 243 = .ok (.iload 5, 2) := by decide +kernel
theorem dL_nights_245 : decode cL_nights 245 = .ok (.lshr, 1) := by decide +kernel
theorem dL_nights_246 : decode cL_nights 246 = .ok (.lconst 1, 1) := by decide +kernel
theorem dL_nights_247 : decode cL_nights 247 = .ok (.land, 1) := by decide +kernel
theorem dL_nights_248 : decode cL_nights 248 = .ok (.lconst 0, 1) := by decide +kernel
theorem dL_nights_249 : decode cL_nights 249 = .ok (.lcmp, 1) := by decide +kernel
theorem dL_nights_250 : decode cL_nights 250 = .ok (.ifCond .ne 47, 3) := by decide +kernel
theorem dL_nights_253 : decode cL_nights 253 = .ok (.aload_n 0, 1) := by decide +kernel
theorem dL_nights_254 : decode cL_nights 254 = .ok (.bipush 13, 2) := by decide +kernel
theorem dL_nights_256 : decode cL_nights 256 = .ok (.iconst 0, 1) := by decide +kernel
theorem dL_nights_257 : decode cL_nights 257 = .ok (.iconst 0, 1) := by decide +kernel
theorem dL_nights_258 : decode cL_nights 258 = .ok (.iconst 0, 1) := by decide +kernel
theorem dL_nights_259 : decode cL_nights 259 = .ok (.invokestatic 168, 3) := by decide +kernel
theorem dL_nights_262 : decode cL_nights 262 = .ok (.invokestatic 214, 3) := by decide +kernel
theorem dL_nights_265 : decode cL_nights 265 = .ok (.ifCond .ne 32, 3) := by decide +kernel
theorem dL_nights_268 : decode cL_nights 268 = .ok (.aload_n 1, 1) := by decide +kernel
theorem dL_nights_269 : decode cL_nights 269 = .ok (.bipush 13, 2) := by decide +kernel
theorem dL_nights_271 : decode cL_nights 271 = .ok (.iconst 0, 1) := by decide +kernel
theorem dL_nights_272 : decode cL_nights 272 = .ok (.iconst 0, 1) := by decide +kernel
theorem dL_nights_273 : decode cL_nights 273 = .ok (.iconst 0, 1) := by decide +kernel
theorem dL_nights_274 : decode cL_nights 274 = .ok (.invokestatic 168, 3) := by decide +kernel
theorem dL_nights_277 : decode cL_nights 277 = .ok (.invokestatic 214, 3) := by decide +kernel
theorem dL_nights_280 : decode cL_nights 280 = .ok (.ifCond .ne 17, 3) := by decide +kernel
theorem dL_nights_283 : decode cL_nights 283 = .ok (.aload_n 0, 1) := by decide +kernel
theorem dL_nights_284 : decode cL_nights 284 = .ok (.invokevirtual 186, 3) := by decide +kernel
theorem dL_nights_287 : decode cL_nights 287 = .ok (.lload 6, 2) := by decide +kernel
theorem dL_nights_289 : decode cL_nights 289 = .ok (.lcmp, 1) := by decide +kernel
theorem dL_nights_290 : decode cL_nights 290 = .ok (.ifCond .ne 7, 3) := by decide +kernel
theorem dL_nights_293 : decode cL_nights 293 = .ok (.iconst 1, 1) := by decide +kernel
theorem dL_nights_294 : decode cL_nights 294 = .ok (.goto 4, 3) := by decide +kernel
theorem dL_nights_297 : decode cL_nights 297 = .ok (.iconst 0, 1) := by decide +kernel
theorem dL_nights_298 : decode cL_nights 298 = .ok (.istore 15, 2) := by decide +kernel
theorem dL_nights_300 : decode cL_nights 300 = .ok (.iload 15, 2) := by decide +kernel
theorem dL_nights_302 : decode cL_nights 302 = .ok (.ifCond .eq 38, 3) := by decide +kernel
theorem dL_nights_305 : decode cL_nights 305 = .ok (.aload_n 0, 1) := by decide +kernel
theorem dL_nights_306 : decode cL_nights 306 = .ok (.bipush 12, 2) := by decide +kernel
theorem dL_nights_308 : decode cL_nights 308 = .ok (.iconst 1, 1) := by decide +kernel
theorem dL_nights_309 : decode cL_nights 309 = .ok (.iconst 0, 1) := by decide +kernel
theorem dL_nights_310 : decode cL_nights 310 = .ok (.iconst 0, 1) := by decide +kernel
theorem dL_nights_311 : decode cL_nights 311 = .ok (.invokestatic 168, 3) := by decide +kernel
theorem dL_nights_314 : decode cL_nights 314 = .ok (.aload_n 1, 1) := by decide +kernel
theorem dL_nights_315 : decode cL_nights 315 = .ok (.bipush 12, 2) := by decide +kernel
theorem dL_nights_317 : decode cL_nights 317 = .ok (.iconst 1, 1) := by decide +kernel
theorem dL_nights_318 : decode cL_nights 318 = .ok (.iconst 0, 1) := by decide +kernel
theorem dL_nights_319 : decode cL_nights 319 = .ok (.iconst 0, 1) := by decide +kernel
theorem dL_nights_320 : decode cL_nights 320 = .ok (.invokestatic 168, 3) := by decide +kernel
theorem dL_nights_323 : decode cL_nights 323 = .ok (.if_icmp .ne 17, 3) := by decide +kernel
theorem dL_nights_326 : decode cL_nights 326 = .ok (.aload_n 0, 1) := by decide +kernel
theorem dL_nights_327 : decode cL_nights 327 = .ok (.invokevirtual 186, 3) := by decide +kernel
theorem dL_nights_330 : decode cL_nights 330 = .ok (.lload 10, 2) := by decide +kernel
theorem dL_nights_332 : decode cL_nights 332 = .ok (.lcmp, 1) := by decide +kernel
theorem dL_nights_333 : decode cL_nights 333 = .ok (.ifCond .ne 7, 3) := by decide +kernel
theorem dL_nights_336 : decode cL_nights 336 = .ok (.iconst 1, 1) := by decide +kernel
theorem dL_nights_337 : decode cL_nights 337 = .ok (.goto 4, 3) := by decide +kernel
theorem dL_nights_340 : decode cL_nights 340 = .ok (.iconst 0, 1) := by decide +kernel
theorem dL_nights_341 : decode cL_nights 341 = .ok (.istore 15, 2) := by decide +kernel
theorem dL_nights_343 : decode cL_nights 343 = .ok (.aload_n 0, 1) := by decide +kernel
theorem dL_nights_344 : decode cL_nights 344 = .ok (.bipush 15, 2) := by decide +kernel
theorem dL_nights_346 : decode cL_nights 346 = .ok (.iconst 0, 1) := by decide +kernel
theorem dL_nights_347 : decode cL_nights 347 = .ok (.iconst 0, 1) := by decide +kernel
theorem dL_nights_348 : decode cL_nights 348 = .ok (.iconst 0, 1) := by decide +kernel
theorem dL_nights_349 : decode cL_nights 349 = .ok (.invokestatic 168, 3) := by decide +kernel
theorem dL_nights_352 : decode cL_nights 352 = .ok (.istore 16, 2) := by decide +kernel
theorem dL_nights_354 : decode cL_nights 354 = .ok (.aload_n 0, 1) := by decide +kernel
theorem dL_nights_355 : decode cL_nights 355 = .ok (.invokestatic 218, 3) := by decide +kernel
theorem dL_nights_358 : decode cL_nights 358 = .ok (.lstore 17, 2) := by decide +kernel
theorem dL_nights_360 : decode cL_nights 360 = .ok (.aload_n 0, 1) := by decide +kernel
theorem dL_nights_361 : decode cL_nights 361 = .ok (.iconst 2, 1) := by decide +kernel
theorem dL_nights_362 : decode cL_nights 362 = .ok (.iconst 4, 1) := by decide +kernel
theorem dL_nights_363 : decode cL_nights 363 = .ok (.iconst 0, 1) := by decide +kernel
theorem dL_nights_364 : decode cL_nights 364 = .ok (.iconst 0, 1) := by decide +kernel
theorem dL_nights_365 : decode cL_nights 365 = .ok (.invokestatic 168, 3) := by decide +kernel
theorem dL_nights_368 : decode cL_nights 368 = .ok (.ifCond .ne 7, 3) := by decide +kernel
theorem dL_nights_371 : decode cL_nights 371 = .ok (.iconst 1, 1) := by decide +kernel
theorem dL_nights_372 : decode cL_nights 372 = .ok (.goto 4, 3) := by decide +kernel
theorem dL_nights_375 : decode cL_nights 375 = .ok (.iconst 0, 1) := by decide +kernel
theorem dL_nights_376 : decode cL_nights 376 = .ok (.istore 19, 2) := by decide +kernel
theorem dL_nights_378 : decode cL_nights 378 = .ok (.lload 17, 2) := by decide +kernel
theorem dL_nights_380 : decode cL_nights 380 = .ok (.bipush 32, 2) := by decide +kernel
theorem dL_nights_382 : decode cL_nights 382 = .ok (.lushr, 1) := by decide +kernel
theorem dL_nights_383 : decode cL_nights 383 = .ok (.lload 6, 2) := by decide +kernel
theorem dL_nights_385 : decode cL_nights 385 = .ok (.bipush 32, 2) := by decide +kernel
theorem dL_nights_387 : decode cL_nights 387 = .ok (.lushr, 1) := by decide +kernel
theorem dL_nights_388 : decode cL_nights 388 = .ok (.lcmp, 1) := by decide +kernel
theorem dL_nights_389 : decode cL_nights 389 = .ok (.ifCond .lt 33, 3) := by decide +kernel
theorem dL_nights_392 : decode cL_nights 392 = .ok (.lload 17, 2) := by decide +kernel
theorem dL_nights_394 : decode cL_nights 394 = .ok (.bipush 32, 2) := by decide +kernel
theorem dL_nights_396 : decode cL_nights 396 = .ok (.lushr, 1) := by decide +kernel
theorem dL_nights_397 : decode cL_nights 397 = .ok (.lload 6, 2) := by decide +kernel
theorem dL_nights_399 : decode cL_nights 399 = .ok (.bipush 32, 2) := by decide +kernel
theorem dL_nights_401 : decode cL_nights 401 = .ok (.lushr, 1) := by decide +kernel
theorem dL_nights_402 : decode cL_nights 402 = .ok (.lcmp, 1) := by decide +kernel
theorem dL_nights_403 : decode cL_nights 403 = .ok (.ifCond .ne 23, 3) := by decide +kernel
theorem dL_nights_406 : decode cL_nights 406 = .ok (.lload 17, 2) := by decide +kernel
theorem dL_nights_408 : decode cL_nights 408 = .ok (.ldc2_w 222, 3) := by decide +kernel
theorem dL_nights_411 : decode cL_nights 411 = .ok (.land, 1) := by decide +kernel
theorem dL_nights_412 : decode cL_nights 412 = .ok (.lload 6, 2) := by decide +kernel
theorem dL_nights_414 : decode cL_nights 414 = .ok (.ldc2_w 222, 3) := by decide +kernel
theorem dL_nights_417 : decode cL_nights 417 = .ok (.land, 1) := by decide +kernel
theorem dL_nights_418 : decode cL_nights 418 = .ok (.lcmp, 1) := by decide +kernel
theorem dL_nights_419 : decode cL_nights 419 = .ok (.ifCond .gt 7, 3) := by decide +kernel
theorem dL_nights_422 : decode cL_nights 422 = .ok (.iconst 1, 1) := by decide +kernel
theorem dL_nights_423 : decode cL_nights 423 = .ok (.goto 4, 3) := by decide +kernel
theorem dL_nights_426 : decode cL_nights 426 = .ok (.iconst 0, 1) := by decide +kernel
theorem dL_nights_427 : decode cL_nights 427 = .ok (.istore 20, 2) := by decide +kernel
theorem dL_nights_429 : decode cL_nights 429 = .ok (.iload 15, 2) := by decide +kernel
theorem dL_nights_431 : decode cL_nights 431 = .ok (.ifCond .eq 71, 3) := by decide +kernel
theorem dL_nights_434 : decode cL_nights 434 = .ok (.iload 19, 2) := by decide +kernel
theorem dL_nights_436 : decode cL_nights 436 = .ok (.ifCond .eq 33, 3) := by decide +kernel
theorem dL_nights_439 : decode cL_nights 439 = .ok (.iload 16, 2) := by decide +kernel
theorem dL_nights_441 : decode cL_nights 441 = .ok (.ldc 38, 2) := by decide +kernel
theorem dL_nights_443 : decode cL_nights 443 = .ok (.if_icmp .ne 59, 3) := by decide +kernel
theorem dL_nights_446 : decode cL_nights 446 = .ok (.lload 17, 2) := by decide +kernel
theorem dL_nights_448 : decode cL_nights 448 = .ok (.ldc2_w 23, 3) := by decide +kernel
theorem dL_nights_451 : decode cL_nights 451 = .ok (.lcmp, 1) := by decide +kernel
theorem dL_nights_452 : decode cL_nights 452 = .ok (.ifCond .ne 50, 3) := by decide +kernel
theorem dL_nights_455 : decode cL_nights 455 = .ok (.lload 10, 2) := by decide +kernel
theorem dL_nights_457 : decode cL_nights 457 = .ok (.lload 6, 2) := by decide +kernel
theorem dL_nights_459 : decode cL_nights 459 = .ok (.land, 1) := by decide +kernel
theorem dL_nights_460 : decode cL_nights 460 = .ok (.lload 6, 2) := by decide +kernel
theorem dL_nights_462 : decode cL_nights 462 = .ok (.lcmp, 1) := by decide +kernel
theorem dL_nights_463 : decode cL_nights 463 = .ok (.ifCond .ne 39, 3) := by decide +kernel
theorem dL_nights_466 : decode cL_nights 466 = .ok (.goto 32, 3) := by decide +kernel
theorem dL_nights_469 : decode cL_nights 469 = .ok (.iload 16, 2) := by decide +kernel
theorem dL_nights_471 : decode cL_nights 471 = .ok (.ifCond .lt 31, 3) := by decide +kernel
theorem dL_nights_474 : decode cL_nights 474 = .ok (.iload 16, 2) := by decide +kernel
theorem dL_nights_476 : decode cL_nights 476 = .ok (.iload_n 3, 1) := by decide +kernel
theorem dL_nights_477 : decode cL_nights 477 = .ok (.if_icmp .gt 25, 3) := by decide +kernel
theorem dL_nights_480 : decode cL_nights 480 = .ok (.iload 20, 2) := by decide +kernel
theorem dL_nights_482 : decode cL_nights 482 = .ok (.ifCond .eq 20, 3) := by decide +kernel
theorem dL_nights_485 : decode cL_nights 485 = .ok (.iload 16, 2) := by decide +kernel
theorem dL_nights_487 : decode cL_nights 487 = .ok (.ifCond .gt 11, 3) := by decide +kernel
theorem dL_nights_490 : decode cL_nights 490 = .ok (.lload 17, 2) := by decide +kernel
theorem dL_nights_492 : decode cL_nights 492 = .ok (.lload 6, 2) := by decide +kernel
theorem dL_nights_494 : decode cL_nights 494 = .ok (.lcmp, 1) := by decide +kernel
theorem dL_nights_495 : decode cL_nights 495 = .ok (.ifCond .ne 7, 3) := by decide +kernel
theorem dL_nights_498 : decode cL_nights 498 = .ok (.iconst 1, 1) := by decide +kernel
theorem dL_nights_499 : decode cL_nights 499 = .ok (.goto 4, 3) := by decide +kernel
theorem dL_nights_502 : decode cL_nights 502 = .ok (.iconst 0, 1) := by decide +kernel
theorem dL_nights_503 : decode cL_nights 503 = .ok (.istore 15, 2) := by decide +kernel
theorem dL_nights_505 : decode cL_nights 505 = .ok (.iload 15, 2) := by decide +kernel
theorem dL_nights_507 : decode cL_nights 507 = .ok (.ifCond .eq 47, 3) := by decide +kernel
theorem dL_nights_510 : decode cL_nights 510 = .ok (.aload_n 0, 1) := by decide +kernel
theorem dL_nights_511 : decode cL_nights 511 = .ok (.bipush 13, 2) := by decide +kernel
theorem dL_nights_513 : decode cL_nights 513 = .ok (.iconst 0, 1) := by decide +kernel
theorem dL_nights_514 : decode cL_nights 514 = .ok (.iconst 0, 1) := by decide +kernel
theorem dL_nights_515 : decode cL_nights 515 = .ok (.iconst 0, 1) := by decide +kernel
theorem dL_nights_516 : decode cL_nights 516 = .ok (.invokestatic 168, 3) := by decide +kernel
theorem dL_nights_519 : decode cL_nights 519 = .ok (.invokestatic 214, 3) := by decide +kernel
theorem dL_nights_522 : decode cL_nights 522 = .ok (.ifCond .ne 32, 3) := by decide +kernel
theorem dL_nights_525 : decode cL_nights 525 = .ok (.aload_n 1, 1) := by decide +kernel
theorem dL_nights_526 : decode cL_nights 526 = .ok (.bipush 13, 2) := by decide +kernel
theorem dL_nights_528 : decode cL_nights 528 = .ok (.iconst 0, 1) := by decide +kernel
theorem dL_nights_529 : decode cL_nights 529 = .ok (.iconst 0, 1) := by decide +kernel
theorem dL_nights_530 : decode cL_nights 530 = .ok (.iconst 0, 1) := by decide +kernel
theorem dL_nights_531 : decode cL_nights 531 = .ok (.invokestatic 168, 3) := by decide +kernel
theorem dL_nights_534 : decode cL_nights 534 = .ok (.invokestatic 214, 3) := by decide +kernel
theorem dL_nights_537 : decode cL_nights 537 = .ok (.ifCond .ne 17, 3) := by decide +kernel
theorem dL_nights_540 : decode cL_nights 540 = .ok (.aload_n 0, 1) := by decide +kernel
theorem dL_nights_541 : decode cL_nights 541 = .ok (.invokevirtual 186, 3) := by decide +kernel
theorem dL_nights_544 : decode cL_nights 544 = .ok (.lload 6, 2) := by decide +kernel
theorem dL_nights_546 : decode cL_nights 546 = .ok (.lcmp, 1) := by decide +kernel
theorem dL_nights_547 : decode cL_nights 547 = .ok (.ifCond .ne 7, 3) := by decide +kernel
theorem dL_nights_550 : decode cL_nights 550 = .ok (.iconst 1, 1) := by decide +kernel
theorem dL_nights_551 : decode cL_nights 551 = .ok (.goto 4, 3) := by decide +kernel
theorem dL_nights_554 : decode cL_nights 554 = .ok (.iconst 0, 1) := by decide +kernel
theorem dL_nights_555 : decode cL_nights 555 = .ok (.ireturn, 1) := by decide +kernel
set_option maxRecDepth 20000 in
theorem ggL_scratches_L_call : GoodIn wsL_scratches wsL_call := goodIn_ca (goodIn_ca (goodIn_ca (goodIn_r _ [4, 5, 6, 3, 7, 8, 9, 10, 11, 12, 13, 14, 15, 16, 17, 18, 19, 20, 21, 22, 23, 24, 25, 26, 27, 28, 29, 30, 31, 32, 33, 34, 35, 36, 37, 38, 39, 40, 41, 42, 43, 44, 45, 46, 47, 48, 49, 50, 51, 52, 53, 54, 55, 56, 57, 58, 59, 60, 61, 62, 63, 64, 65, 66, 67, 68, 69, 70, 71, 72, 73, 74, 75, 76, 77, 78, 79, 80, 81, 82, 83, 84, 85, 86, 87, 88, 89, 90, 91, 92, 93, 94, 95, 96, 97, 98, 99, 100, 101, 102, 103, 104, 105, 106, 107, 108, 109, 110, 111, 112, 113, 114, 115, 116, 117, 118, 119, 120, 121, 122, 123, 124, 125, 126, 127, 128, 129, 130, 131, 132, 133, 134, 135, 136, 137, 138, 139, 140, 141, 142, 143, 144, 145, 146, 147, 148, 149, 150, 151, 152, 153, 154, 155, 156, 157, 158, 159, 160, 161, 162, 163, 164, 165, 166, 167, 168, 169, 170, 171, 172, 173, 174, 175, 176, 177, 178, 179, 180, 181, 182, 183, 184, 185, 186, 187, 188, 189, 190, 191, 192, 193, 194, 195, 196, 197, 198, 199, 200, 201, 202, 203, 204, 205, 206, 207, 208, 209, 210, 211, 212, 213, 214, 215, 216, 217, 218, 219, 220, 221, 222, 223, 224, 225, 226, 227, 228, 229, 230, 231, 232, 233, 234, 235, 236, 237, 238, 239, 240, 241, 242, 243, 244, 245, 246, 247, 248, 249, 250, 251, 252, 253, 254, 255, 256, 257, 258, 259, 260, 261, 262, 263, 264, 265, 266, 267, 268, 269, 270, 271, 272, 273, 274, 275, 276, 277, 278, 279, 280, 281, 282, 283, 284, 285, 286, 287, 288, 289, 290, 291, 292, 293, 294, 295, 296, 297, 298, 299, 300, 301, 302, 303, 304, 305, 306, 307, 308, 309, 310, 311, 312, 313, 314, 315, 316, 317, 318, 319, 320, 321, 322, 323, 324, 325, 326, 327, 328, 329, 330, 331, 332, 333, 334, 335, 336, 337, 338, 339, 340, 341, 342, 343, 344, 345, 346, 347, 348, 349, 350, 351, 352, 353, 354, 355, 356, 357, 358, 359, 360, 361, 362, 363, 364, 365, 366, 367, 368, 369, 370, 371, 372, 373, 374, 375, 376, 377, 378, 379, 380, 381, 382, 383, 384, 385, 386, 387, 388, 389, 390, 391, 392, 393, 394, 395, 396, 397, 398, 399, 400, 401, 402, 403, 404, 405, 406, 407, 408, 409, 410, 411, 412, 413, 414, 415, 416, 417, 418, 419, 420, 421, 422, 423, 424, 425, 426, 427, 428, 429, 430, 431, 432, 433, 434, 435, 436, 437, 438, 439, 440, 441, 442, 443, 444, 445, 446, 447, 448, 449, 450, 451, 452, 453, 454, 455, 456, 457, 458, 459, 460, 461, 462, 463, 464, 465, 466, 467, 468, 469, 470, 471, 472, 473, 474, 475, 476, 477, 478, 479, 480, 481, 482, 483, 484, 485, 486, 487, 488, 489, 490, 491, 492, 493, 494, 495, 496, 497, 498, 499, 500, 501, 502, 503, 504, 505, 506, 507, 508, 509, 510, 511, 512, 513, 514, 515, 516, 517, 518, 519, 520, 521, 522, 523, 524, 525, 526, 527, 528, 529, 530, 531, 532, 547, 548, 549, 550, 551, 552, 553, 554, 555, 556, 557, 558, 559, 560, 561, 562, 563, 564, 565, 566, 567, 568, 569, 570, 571, 572, 573, 574, 575, 576, 577, 578, 579, 580, 581] (by decide +kernel) (by decide +kernel)) (goodIn_sub (fun _ h => List.mem_cons_of_mem _ (List.mem_append_left _ (List.mem_append_left _ (List.mem_append_right _ h)))) (by decide +kernel))) (goodIn_sub (fun _ h => List.mem_cons_of_mem _ (List.mem_append_left _ (List.mem_append_right _ h))) (by decide +kernel))) (goodIn_sub (fun _ h => List.mem_cons_of_mem _ (List.mem_append_right _ h)) (by decide +kernel))
set_option maxRecDepth 20000 in
theorem gL_scratches_L_call : GoodIn wsL_scratches (va_wsS RL 168 yL_call wsL_call) := goodIn_app (goodIn_of _ (by decide +kernel)) ggL_scratches_L_call
set_option maxRecDepth 20000 in
theorem ggL_scratches_L_clear : GoodIn wsL_scratches wsL_clear := goodIn_ca (goodIn_ca (goodIn_ca (goodIn_r _ [535, 1, 2, 3, 4, 5, 6, 7, 8, 9, 10, 11, 12, 13, 14, 15, 16, 17, 18, 19, 20, 21, 22, 23, 24, 25, 26, 27, 28, 29, 30, 31, 32, 33, 34, 35, 36, 37, 38, 39, 40, 41, 42, 43, 44, 45, 46, 47, 48, 49, 50, 51, 52, 53, 54, 55, 56, 57, 58, 59, 60, 61, 62, 63, 64, 65, 66, 67, 68, 69, 70, 71, 72, 73, 74, 75, 76, 77, 78, 79, 80, 81, 82, 83, 84, 85, 86, 87, 88, 89, 90, 91, 92, 93, 94, 95, 96, 97, 98, 99, 100, 101, 102, 103, 104, 105, 106, 107, 108, 109, 110, 111, 112, 113, 114, 115, 116, 117, 118, 119, 120, 121, 122, 123, 124, 125, 126, 127, 128, 129, 130, 131, 132, 133, 134, 135, 136, 137, 138, 139, 140, 141, 142, 143, 144, 145, 146, 147, 148, 149, 150, 151, 152, 153, 154, 155, 156, 157, 158, 159, 160, 161, 162, 163, 164, 165, 166, 167, 168, 169, 170, 171, 172, 173, 174, 175, 176, 177, 178, 179, 180, 181, 182, 183, 184, 185, 186, 187, 188, 189, 190, 191, 192, 193, 194, 195, 196, 197, 198, 199, 200, 201, 202, 203, 204, 205, 206, 207, 208, 209, 210, 211, 212, 213, 214, 215, 216, 217, 218, 219, 220, 221, 222, 223, 224, 225, 226, 227, 228, 229, 230, 231, 232, 233, 234, 235, 236, 237, 238, 239, 240, 241, 242, 243, 244, 245, 246, 247, 248, 249, 250, 251, 252, 253, 254, 255, 256, 257, 258, 259, 260, 261, 262, 263, 264, 265, 266, 267, 268, 269, 270, 271, 272, 273, 274, 275, 276, 277, 278, 279, 280, 281, 282, 283, 284, 285, 286, 287, 288, 289, 290, 291, 292, 293, 294, 295, 296, 297, 298, 299, 300, 301, 302, 303, 304, 305, 306, 307, 308, 309, 310, 311, 312, 313, 314, 315, 316, 317, 318, 319, 320, 321, 322, 323, 324, 325, 326, 327, 328, 329, 330, 331, 332, 333, 334, 335, 336, 337, 338, 339, 340, 341, 342, 343, 344, 345, 346, 347, 348, 349, 350, 351, 352, 353, 354, 355, 356, 357, 358, 359, 360, 361, 362, 363, 364, 365, 366, 367, 368, 369, 370, 371, 372, 373, 374, 375, 376, 377, 378, 379, 380, 381, 382, 383, 384, 385, 386, 387, 388, 389, 390, 391, 392, 393, 394, 395, 396, 397, 398, 399, 400, 401, 402, 403, 404, 405, 406, 407, 408, 409, 410, 411, 412, 413, 414, 415, 416, 417, 418, 419, 420, 421, 422, 423, 424, 425, 426, 427, 428, 429, 430, 431, 432, 433, 434, 435, 436, 437, 438, 439, 440, 441, 442, 443, 444, 445, 446, 447, 448, 449, 450, 451, 452, 453, 454, 455, 456, 457, 458, 459, 460, 461, 462, 463, 464, 465, 466, 467, 468, 469, 470, 471, 472, 473, 474, 475, 476, 477, 478, 479, 480, 481, 482, 483, 484, 485, 486, 487, 488, 489, 490, 491, 492, 493, 494, 495, 496, 497, 498, 499, 500, 501, 502, 503, 504, 505, 506, 507, 508, 509, 510, 511, 512, 513, 514, 515, 516, 517, 518, 519, 520, 521, 522, 523, 524, 525, 526, 527, 528, 529, 530, 531, 532, 536, 537, 538, 539, 540, 541, 542, 543, 544, 545, 546, 547, 548, 549, 550, 551, 552, 553, 554, 555, 556, 557, 558, 559, 560, 561, 562, 563, 564, 565, 566, 567, 568, 569, 570, 571, 572, 573, 574, 575, 576, 577, 578, 579, 580, 581] (by decide +kernel) (by decide +kernel)) (goodIn_sub (fun _ h => List.mem_cons_of_mem _ (List.mem_append_left _ (List.mem_append_left _ (List.mem_append_right _ h)))) (by decide +kernel))) (goodIn_sub (fun _ h => List.mem_cons_of_mem _ (List.mem_append_left _ (List.mem_append_right _ h))) (by decide +kernel))) (goodIn_sub (fun _ h => List.mem_cons_of_mem _ (List.mem_append_right _ h)) (by decide +kernel))
set_option maxRecDepth 20000 in
theorem gL_scratches_L_clear : GoodIn wsL_scratches (va_wsS RL 224 yL_clear wsL_clear) := goodIn_app (goodIn_of _ (by decide +kernel)) ggL_scratches_L_clear
theorem dL_scratches_0 : decode cL_scratches 0 = .ok (.aload_n 0, 1) := by decide +kernel
theorem dL_scratches_1 : decode cL_scratches 1 = .ok (.iconst 2, 1) := by decide +kernel
theorem dL_scratches_2 : decode cL_scratches 2 = .ok (.iconst 0, 1) := by decide +kernel
theorem dL_scratches_3 : decode cL_scratches 3 = .ok (.iconst 0, 1) := by decide +kernel
theorem dL_scratches_4 : decode cL_scratches 4 = .ok (.iconst 0, 1) := by decide +kernel
theorem dL_scratches_5 : decode cL_scratches 5 = .ok (.invokestatic 168, 3) := by decide +kernel
theorem dL_scratches_8 : decode cL_scratches 8 = .ok (.aload_n 0, 1) := by decide +kernel
theorem dL_scratches_9 : decode cL_scratches 9 = .ok (.iconst 2, 1) := by decide +kernel
theorem dL_scratches_10 : decode cL_scratches 10 = .ok (.iconst 1, 1) := by decide +kernel
theorem dL_scratches_11 : decode cL_scratches 11 = .ok (.iconst 0, 1) := by decide +kernel
theorem dL_scratches_12 : decode cL_scratches 12 = .ok (.iconst 0, 1) := by decide +kernel
theorem dL_scratches_13 : decode cL_scratches 13 = .ok (.invokestatic 168, 3) := by decide +kernel
theorem dL_scratches_16 : decode cL_scratches 16 = .ok (.imul, 1) := by decide +kernel
theorem dL_scratches_17 : decode cL_scratches 17 = .ok (.istore_n 3, 1) := by decide +kernel
theorem dL_scratches_18 : decode cL_scratches 18 = .ok (.iload_n 2, 1) := by decide +kernel
theorem dL_scratches_19 : decode cL_scratches 19 = .ok (.iload_n 3, 1) := by decide +kernel
theorem dL_scratches_20 : decode cL_scratches 20 = .ok (.irem, 1) := by decide +kernel
theorem dL_scratches_21 : decode cL_scratches 21 = .ok (.istore 4, 2) := by decide +kernel
theorem dL_scratches_23 : decode cL_scratches 23 = .ok (.iconst 1, 1) := by decide +kernel
theorem dL_scratches_24 : decode cL_scratches 24 = .ok (.iload_n 2, 1) := by decide +kernel
theorem dL_scratches_25 : decode cL_scratches 25 = .ok (.bipush 64, 2) := by decide +kernel
theorem dL_scratches_27 : decode cL_scratches 27 = .ok (.idiv, 1) := by decide +kernel
theorem dL_scratches_28 : decode cL_scratches 28 = .ok (.bipush 6, 2) := by decide +kernel
theorem dL_scratches_30 : decode cL_scratches 30 = .ok (.irem, 1) := by decide +kernel
theorem dL_scratches_31 : decode cL_scratches 31 = .ok (.iadd, 1) := by decide +kernel
theorem dL_scratches_32 : decode cL_scratches 32 = .ok (.istore 5, 2) := by decide +kernel
theorem dL_scratches_34 : decode cL_scratches 34 = .ok (.aload_n 0, 1) := by decide +kernel
theorem dL_scratches_35 : decode cL_scratches 35 = .ok (.bipush 17, 2) := by decide +kernel
theorem dL_scratches_37 : decode cL_scratches 37 = .ok (.iload 4, 2) := by decide +kernel
theorem dL_scratches_39 : decode cL_scratches 39 = .ok (.iload 5, 2) := by decide +kernel
theorem dL_scratches_41 : decode cL_scratches 41 = .ok (.iconst 0, 1) := by decide +kernel
theorem dL_scratches_42 : decode cL_scratches 42 = .ok (.invokestatic 168, 3) := by decide +kernel
theorem dL_scratches_45 : decode cL_scratches 45 = .ok (.istore 6, 2) := by decide +kernel
theorem dL_scratches_47 : decode cL_scratches 47 = .ok (.iload_n 2, 1) := by decide +kernel
theorem dL_scratches_48 : decode cL_scratches 48 = .ok (.sipush 400, 3) := by decide +kernel
theorem dL_scratches_51 : decode cL_scratches 51 = .ok (.idiv, 1) := by decide +kernel
theorem dL_scratches_52 : decode cL_scratches 52 = .ok (.iconst 4, 1) := by decide +kernel
theorem dL_scratches_53 : decode cL_scratches 53 = .ok (.iload_n 3, 1) := by decide +kernel
theorem dL_scratches_54 : decode cL_scratches 54 = .ok (.imul, 1) := by decide +kernel
theorem dL_scratches_55 : decode cL_scratches 55 = .ok (.irem, 1) := by decide +kernel
theorem dL_scratches_56 : decode cL_scratches 56 = .ok (.istore 7, 2) := by decide +kernel
theorem dL_scratches_58 : decode cL_scratches 58 = .ok (.iload 6, 2) := by decide +kernel
theorem dL_scratches_60 : decode cL_scratches 60 = .ok (.iconst (-1), 1) := by decide +kernel
theorem dL_scratches_61 : decode cL_scratches 61 = .ok (.if_icmp .ne 8, 3) := by decide +kernel
theorem dL_scratches_64 : decode cL_scratches 64 = .ok (.iload 7, 2) := by decide +kernel
theorem dL_scratches_66 : decode cL_scratches 66 = .ok (.goto 5, 3) := by decide +kernel
theorem dL_scratches_69 : decode cL_scratches 69 = .ok (.iload 6, 2) := by decide +kernel
theorem dL_scratches_71 : decode cL_scratches 71 = .ok (.istore 8, 2) := by decide +kernel
theorem dL_scratches_73 : decode cL_scratches 73 = .ok (.iload 6, 2) := by decide +kernel
theorem dL_scratches_75 : decode cL_scratches 75 = .ok (.iconst (-1), 1) := by decide +kernel
theorem dL_scratches_76 : decode cL_scratches 76 = .ok (.if_icmp .eq 10, 3) := by decide +kernel
theorem dL_scratches_79 : decode cL_scratches 79 = .ok (.iload 7, 2) := by decide +kernel
theorem dL_scratches_81 : decode cL_scratches 81 = .ok (.iload 6, 2) := by decide +kernel
theorem dL_scratches_83 : decode cL_scratches 83 = .ok (.if_icmp .ge 7, 3) := by decide +kernel
theorem dL_scratches_86 : decode cL_scratches 86 = .ok (.iconst 1, 1) := by decide +kernel
theorem dL_scratches_87 : decode cL_scratches 87 = .ok (.goto 4, 3) := by decide +kernel
theorem dL_scratches_90 : decode cL_scratches 90 = .ok (.iconst 0, 1) := by decide +kernel
theorem dL_scratches_91 : decode cL_scratches 91 = .ok (.istore 9, 2) := by decide +kernel
theorem dL_scratches_93 : decode cL_scratches 93 = .ok (.iload 6, 2) := by decide +kernel
theorem dL_scratches_95 : decode cL_scratches 95 = .ok (.iconst (-1), 1) := by decide +kernel
theorem dL_scratches_96 : decode cL_scratches 96 = .ok (.if_icmp .eq 17, 3) := by decide +kernel
theorem dL_scratches_99 : decode cL_scratches 99 = .ok (.aload_n 0, 1) := by decide +kernel
theorem dL_scratches_100 : decode cL_scratches 100 = .ok (.aload_n 1, 1) := by decide +kernel
theorem dL_scratches_101 : decode cL_scratches 101 = .ok (.iload 4, 2) := by decide +kernel
theorem dL_scratches_103 : decode cL_scratches 103 = .ok (.iload 5, 2) := by decide +kernel
theorem dL_scratches_105 : decode cL_scratches 105 = .ok (.iload 8, 2) := by decide +kernel
theorem dL_scratches_107 : decode cL_scratches 107 = .ok (.invokestatic 224, 3) := by decide +kernel
theorem dL_scratches_110 : decode cL_scratches 110 = .ok (.ifCond .eq 7, 3) := by decide +kernel
theorem dL_scratches_113 : decode cL_scratches 113 = .ok (.iconst 1, 1) := by decide +kernel
theorem dL_scratches_114 : decode cL_scratches 114 = .ok (.goto 4, 3) := by decide +kernel
theorem dL_scratches_117 : decode cL_scratches 117 = .ok (.iconst 0, 1) := by decide +kernel
theorem dL_scratches_118 : decode cL_scratches 118 = .ok (.istore 10, 2) := by decide +kernel
theorem dL_scratches_120 : decode cL_scratches 120 = .ok (.iload 10, 2) := by decide +kernel
theorem dL_scratches_122 : decode cL_scratches 122 = .ok (.ifCond .eq 26, 3) := by decide +kernel
theorem dL_scratches_125 : decode cL_scratches 125 = .ok (.iload 9, 2) := by decide +kernel
theorem dL_scratches_127 : decode cL_scratches 127 = .ok (.ifCond .eq 17, 3) := by decide +kernel
theorem dL_scratches_130 : decode cL_scratches 130 = .ok (.aload_n 0, 1) := by decide +kernel
theorem dL_scratches_131 : decode cL_scratches 131 = .ok (.aload_n 1, 1) := by decide +kernel
theorem dL_scratches_132 : decode cL_scratches 132 = .ok (.iload 4, 2) := by decide +kernel
theorem dL_scratches_134 : decode cL_scratches 134 = .ok (.iload 5, 2) := by decide +kernel
theorem dL_scratches_136 : decode cL_scratches 136 = .ok (.iload 7, 2) := by decide +kernel
theorem dL_scratches_138 : decode cL_scratches 138 = .ok (.invokestatic 224, 3) := by decide +kernel
theorem dL_scratches_141 : decode cL_scratches 141 = .ok (.ifCond .ne 7, 3) := by decide +kernel
theorem dL_scratches_144 : decode cL_scratches 144 = .ok (.iconst 1, 1) := by decide +kernel
theorem dL_scratches_145 : decode cL_scratches 145 = .ok (.goto 4, 3) := by decide +kernel
theorem dL_scratches_148 : decode cL_scratches 148 = .ok (.iconst 0, 1) := by decide +kernel
theorem dL_scratches_149 : decode cL_scratches 149 = .ok (.ireturn, 1) := by decide +kernel
set_option maxRecDepth 20000 in
theorem ggL_clear_L_call : GoodIn wsL_clear wsL_call := goodIn_ca (goodIn_ca (goodIn_ca (goodIn_r _ [4, 5, 6, 3, 7, 8, 9, 10, 11, 12, 13, 14, 15, 16, 17, 18, 19, 20, 21, 22, 23, 24, 25, 26, 27, 28, 29, 30, 31, 32, 33, 34, 35, 36, 37, 38, 39, 40, 41, 42, 43, 44, 45, 46, 47, 48, 49, 50, 51, 52, 53, 54, 55, 56, 57, 58, 59, 60, 61, 62, 63, 64, 65, 66, 67, 68, 69, 70, 71, 72, 73, 74, 75, 76, 77, 78, 79, 80, 81, 82, 83, 84, 85, 86, 87, 88, 89, 90, 91, 92, 93, 94, 95, 96, 97, 98, 99, 100, 101, 102, 103, 104, 105, 106, 107, 108, 109, 110, 111, 112, 113, 114, 115, 116, 117, 118, 119, 120, 121, 122, 123, 124, 125, 126, 127, 128, 129, 130, 131, 132, 133, 134, 135, 136, 137, 138, 139, 140, 141, 142, 143, 144, 145, 146, 147, 148, 149, 150, 151, 152, 153, 154, 155, 156, 157, 158, 159, 160, 161, 162, 163, 164, 165, 166, 167, 168, 169, 170, 171, 172, 173, 174, 175, 176, 177, 178, 179, 180, 181, 182, 183, 184, 185, 186, 187, 188, 189, 190, 191, 192, 193, 194, 195, 196, 197, 198, 199, 200, 201, 202, 203, 204, 205, 206, 207, 208, 209, 210, 211, 212, 213, 214, 215, 216, 217, 218, 219, 220, 221, 222, 223, 224, 225, 226, 227, 228, 229, 230, 231, 232, 233, 234, 235, 236, 237, 238, 239, 240, 241, 242, 243, 244, 245, 246, 247, 248, 249, 250, 251, 252, 253, 254, 255, 256, 257, 258, 259, 260, 261, 262, 263, 264, 265, 266, 267, 268, 269, 270, 271, 272, 273, 274, 275, 276, 277, 278, 279, 280, 281, 282, 283, 284, 285, 286, 287, 288, 289, 290, 291, 292, 293, 294, 295, 296, 297, 298, 299, 300, 301, 302, 303, 304, 305, 306, 307, 308, 309, 310, 311, 312, 313, 314, 315, 316, 317, 318, 319, 320, 321, 322, 323, 324, 325, 326, 327, 328, 329, 330, 331, 332, 333, 334, 335, 336, 337, 338, 339, 340, 341, 342, 343, 344, 345, 346, 347, 348, 349, 350, 351, 352, 353, 354, 355, 356, 357, 358, 359, 360, 361, 362, 363, 364, 365, 366, 367, 368, 369, 370, 371, 372, 373, 374, 375, 376, 377, 378, 379, 380, 381, 382, 383, 384, 385, 386, 387, 388, 389, 390, 391, 392, 393, 394, 395, 396, 397, 398, 399, 400, 401, 402, 403, 404, 405, 406, 407, 408, 409, 410, 411, 412, 413, 414, 415, 416, 417, 418, 419, 420, 421, 422, 423, 424, 425, 426, 427, 428, 429, 430, 431, 432, 433, 434, 435, 436, 437, 438, 439, 440, 441, 442, 443, 444, 445, 446, 447, 448, 449, 450, 451, 452, 453, 454, 455, 456, 457, 458, 459, 460, 461, 462, 463, 464, 465, 466, 467, 468, 469, 470, 471, 472, 473, 474, 475, 476, 477, 478, 479, 480, 481, 482, 483, 484, 485, 486, 487, 488, 489, 490, 491, 492, 493, 494, 495, 496, 497, 498, 499, 500, 501, 502, 503, 504, 505, 506, 507, 508, 509, 510, 511, 512, 513, 514, 515, 516, 517, 518, 519, 520, 521, 522, 523, 524, 525, 526, 527, 528, 529, 530, 531, 532, 544, 545, 546, 547, 548, 549, 550, 551, 552, 553, 554, 555, 556, 557, 558, 559, 560, 561, 562, 563, 564, 565, 566, 567, 568, 569, 570, 571, 572, 573, 574, 575, 576, 577, 578] (by decide +kernel) (by decide +kernel)) (goodIn_sub (fun _ h => List.mem_cons_of_mem _ (List.mem_append_left _ (List.mem_append_left _ (List.mem_append_right _ h)))) (by decide +kernel))) (goodIn_sub (fun _ h => List.mem_cons_of_mem _ (List.mem_append_left _ (List.mem_append_right _ h))) (by decide +kernel))) (goodIn_sub (fun _ h => List.mem_cons_of_mem _ (List.mem_append_right _ h)) (by decide +kernel))
set_option maxRecDepth 20000 in
theorem gL_clear_L_call : GoodIn wsL_clear (va_wsS RL 168 yL_call wsL_call) := goodIn_app (goodIn_of _ (by decide +kernel)) ggL_clear_L_call
set_option maxRecDepth 20000 in
theorem ggL_clear_L_looks : GoodIn wsL_clear wsL_looks := goodIn_ca (goodIn_r _ [535, 8, 536, 537, 538, 539, 15, 540, 50, 244, 20, 21, 22, 23, 24, 25, 26, 27, 28, 409, 228, 229, 106, 230, 108, 231, 232, 233, 234, 163, 164, 165, 166, 117, 196, 197, 198, 199, 119, 191, 118, 200, 201, 202, 203, 125, 115, 114, 204, 205, 206, 207, 126, 208, 209, 210, 211, 124, 212, 213, 214, 215, 127, 155, 156, 157, 158, 544, 545, 546, 547, 548, 549, 550, 551, 563, 564, 565, 566, 567, 568, 569, 570, 571, 572, 573, 574] (by decide +kernel) (by decide +kernel)) (goodIn_sub (fun _ h => List.mem_cons_of_mem _ (List.mem_append_left _ (List.mem_append_right _ h))) (by decide +kernel))
set_option maxRecDepth 20000 in
theorem gL_clear_L_looks : GoodIn wsL_clear (va_wsS RL 172 yL_looks wsL_looks) := goodIn_app (goodIn_of _ (by decide +kernel)) ggL_clear_L_looks
set_option maxRecDepth 20000 in
theorem ggL_clear_L_thrown : GoodIn wsL_clear wsL_thrown := goodIn_r _ [543, 272, 10, 11] (by decide +kernel) (by decide +kernel)
set_option maxRecDepth 20000 in
theorem gL_clear_L_thrown : GoodIn wsL_clear (va_wsS RL 214 yL_thrown wsL_thrown) := goodIn_app (goodIn_of _ (by decide +kernel)) ggL_clear_L_thrown
theorem dL_clear_0 : decode cL_clear 0 = .ok (.aload_n 0, 1) := by decide +kernel
theorem dL_clear_1 : decode cL_clear 1 = .ok (.iconst 4, 1) := by decide +kernel
theorem dL_clear_2 : decode cL_clear 2 = .ok (.iload 4, 2) := by decide +kernel
theorem dL_clear_4 : decode cL_clear 4 = .ok (.iconst 4, 1) := by decide +kernel
theorem dL_clear_5 : decode cL_clear 5 = .ok (.idiv, 1) := by decide +kernel
theorem dL_clear_6 : decode cL_clear 6 = .ok (.iload 4, 2) := by decide +kernel
theorem dL_clear_8 : decode cL_clear 8 = .ok (.iconst 4, 1) := by decide +kernel
theorem dL_clear_9 : decode cL_clear 9 = .ok (.irem, 1) := by decide +kernel
theorem dL_clear_10 : decode cL_clear 10 = .ok (.iconst 0, 1) := by decide +kernel
theorem dL_clear_11 : decode cL_clear 11 = .ok (.invokestatic 168, 3) := by decide +kernel
theorem dL_clear_14 : decode cL_clear 14 = .ok (.iconst (-1), 1) := by decide +kernel
theorem dL_clear_15 : decode cL_clear 15 = .ok (.if_icmp .eq 25, 3) := by decide +kernel
theorem dL_clear_18 : decode cL_clear 18 = .ok (.aload_n 0, 1) := by decide +kernel
theorem dL_clear_19 : decode cL_clear 19 = .ok (.iconst 3, 1) := by decide +kernel
theorem dL_clear_20 : decode cL_clear 20 = .ok (.iload 4, 2) := by decide +kernel
theorem dL_clear_22 : decode cL_clear 22 = .ok (.iconst 4, 1) := by decide +kernel
theorem dL_clear_23 : decode cL_clear 23 = .ok (.idiv, 1) := by decide +kernel
theorem dL_clear_24 : decode cL_clear 24 = .ok (.iconst 3, 1) := by decide +kernel
theorem dL_clear_25 : decode cL_clear 25 = .ok (.iconst 0, 1) := by decide +kernel
theorem dL_clear_26 : decode cL_clear 26 = .ok (.invokestatic 168, 3) := by decide +kernel
theorem dL_clear_29 : decode cL_clear 29 = .ok (.iload 4, 2) := by decide +kernel
theorem dL_clear_31 : decode cL_clear 31 = .ok (.iconst 4, 1) := by decide +kernel
theorem dL_clear_32 : decode cL_clear 32 = .ok (.irem, 1) := by decide +kernel
theorem dL_clear_33 : decode cL_clear 33 = .ok (.ishr, 1) := by decide +kernel
theorem dL_clear_34 : decode cL_clear 34 = .ok (.iconst 1, 1) := by decide +kernel
theorem dL_clear_35 : decode cL_clear 35 = .ok (.iand, 1) := by decide +kernel
theorem dL_clear_36 : decode cL_clear 36 = .ok (.iconst 1, 1) := by decide +kernel
theorem dL_clear_37 : decode cL_clear 37 = .ok (.if_icmp .ne 5, 3) := by decide +kernel
theorem dL_clear_40 : decode cL_clear 40 = .ok (.iconst 0, 1) := by decide +kernel
theorem dL_clear_41 : decode cL_clear 41 = .ok (.ireturn, 1) := by decide +kernel
theorem dL_clear_42 : decode cL_clear 42 = .ok (.aload_n 0, 1) := by decide +kernel
theorem dL_clear_43 : decode cL_clear 43 = .ok (.bipush 8, 2) := by decide +kernel
theorem dL_clear_45 : decode cL_clear 45 = .ok (.iload 4, 2) := by decide +kernel
theorem dL_clear_47 : decode cL_clear 47 = .ok (.iconst 4, 1) := by decide +kernel
theorem dL_clear_48 : decode cL_clear 48 = .ok (.idiv, 1) := by decide +kernel
theorem dL_clear_49 : decode cL_clear 49 = .ok (.iload 4, 2) := by decide +kernel
theorem dL_clear_51 : decode cL_clear 51 = .ok (.iconst 4, 1) := by decide +kernel
theorem dL_clear_52 : decode cL_clear 52 = .ok (.irem, 1) := by decide +kernel
theorem dL_clear_53 : decode cL_clear 53 = .ok (.iconst 0, 1) := by decide +kernel
theorem dL_clear_54 : decode cL_clear 54 = .ok (.invokestatic 168, 3) := by decide +kernel
theorem dL_clear_57 : decode cL_clear 57 = .ok (.iconst 1, 1) := by decide +kernel
theorem dL_clear_58 : decode cL_clear 58 = .ok (.if_icmp .ne 26, 3) := by decide +kernel
theorem dL_clear_61 : decode cL_clear 61 = .ok (.aload_n 1, 1) := by decide +kernel
theorem dL_clear_62 : decode cL_clear 62 = .ok (.bipush 8, 2) := by decide +kernel
theorem dL_clear_64 : decode cL_clear 64 = .ok (.iload 4, 2) := by decide +kernel
theorem dL_clear_66 : decode cL_clear 66 = .ok (.iconst 4, 1) := by decide +kernel
theorem dL_clear_67 : decode cL_clear 67 = .ok (.idiv, 1) := by decide +kernel
theorem dL_clear_68 : decode cL_clear 68 = .ok (.iload 4, 2) := by decide +kernel
theorem dL_clear_70 : decode cL_clear 70 = .ok (.iconst 4, 1) := by decide +kernel
theorem dL_clear_71 : decode cL_clear 71 = .ok (.irem, 1) := by decide +kernel
theorem dL_clear_72 : decode cL_clear 72 = .ok (.iconst 0, 1) := by decide +kernel
theorem dL_clear_73 : decode cL_clear 73 = .ok (.invokestatic 168, 3) := by decide +kernel
theorem dL_clear_76 : decode cL_clear 76 = .ok (.iconst 1, 1) := by decide +kernel
theorem dL_clear_77 : decode cL_clear 77 = .ok (.if_icmp .ne 7, 3) := by decide +kernel
theorem dL_clear_80 : decode cL_clear 80 = .ok (.iconst 1, 1) := by decide +kernel
theorem dL_clear_81 : decode cL_clear 81 = .ok (.goto 4, 3) := by decide +kernel
theorem dL_clear_84 : decode cL_clear 84 = .ok (.iconst 0, 1) := by decide +kernel
theorem dL_clear_85 : decode cL_clear 85 = .ok (.istore 5, 2) := by decide +kernel
theorem dL_clear_87 : decode cL_clear 87 = .ok (.iconst 1, 1) := by decide +kernel
theorem dL_clear_88 : decode cL_clear 88 = .ok (.istore 6, 2) := by decide +kernel
theorem dL_clear_90 : decode cL_clear 90 = .ok (.iload 6, 2) := by decide +kernel
theorem dL_clear_92 : decode cL_clear 92 = .ok (.iload_n 3, 1) := by decide +kernel
theorem dL_clear_93 : decode cL_clear 93 = .ok (.if_icmp .gt 36, 3) := by decide +kernel
theorem dL_clear_96 : decode cL_clear 96 = .ok (.iload 5, 2) := by decide +kernel
theorem dL_clear_98 : decode cL_clear 98 = .ok (.ifCond .eq 31, 3) := by decide +kernel
theorem dL_clear_101 : decode cL_clear 101 = .ok (.aload_n 0, 1) := by decide +kernel
theorem dL_clear_102 : decode cL_clear 102 = .ok (.iload 6, 2) := by decide +kernel
theorem dL_clear_104 : decode cL_clear 104 = .ok (.invokestatic 172, 3) := by decide +kernel
theorem dL_clear_107 : decode cL_clear 107 = .ok (.iload_n 2, 1) := by decide +kernel
theorem dL_clear_108 : decode cL_clear 108 = .ok (.lshr, 1) := by decide +kernel
theorem dL_clear_109 : decode cL_clear 109 = .ok (.lconst 1, 1) := by decide +kernel
theorem dL_clear_110 : decode cL_clear 110 = .ok (.land, 1) := by decide +kernel
theorem dL_clear_111 : decode cL_clear 111 = .ok (.lconst 0, 1) := by decide +kernel
theorem dL_clear_112 : decode cL_clear 112 = .ok (.lcmp, 1) := by decide +kernel
theorem dL_clear_113 : decode cL_clear 113 = .ok (.ifCond .ne 7, 3) := by decide +kernel
theorem dL_clear_116 : decode cL_clear 116 = .ok (.iconst 1, 1) := by decide +kernel
theorem dL_clear_117 : decode cL_clear 117 = .ok (.goto 4, 3) := by decide +kernel
theorem dL_clear_120 : decode cL_clear 120 = .ok (.iconst 0, 1) := by decide +kernel
theorem dL_clear_121 : decode cL_clear 121 = .ok (.istore 5, 2) := by decide +kernel
theorem dL_clear_123 : decode cL_clear 123 = .ok (.iinc 6 1, 3) := by decide +kernel
theorem dL_clear_126 : decode cL_clear 126 = .ok (.goto (-36), 3) := by decide +kernel
theorem dL_clear_129 : decode cL_clear 129 = .ok (.aload_n 0, 1) := by decide +kernel
theorem dL_clear_130 : decode cL_clear 130 = .ok (.bipush 13, 2) := by decide +kernel
theorem dL_clear_132 : decode cL_clear 132 = .ok (.iconst 0, 1) := by decide +kernel
theorem dL_clear_133 : decode cL_clear 133 = .ok (.iconst 0, 1) := by decide +kernel
theorem dL_clear_134 : decode cL_clear 134 = .ok (.iconst 0, 1) := by decide +kernel
theorem dL_clear_135 : decode cL_clear 135 = .ok (.invokestatic 168, 3) := by decide +kernel
theorem dL_clear_138 : decode cL_clear 138 = .ok (.invokestatic 214, 3) := by decide +kernel
theorem dL_clear_141 : decode cL_clear 141 = .ok (.ifCond .ne 27, 3) := by decide +kernel
theorem dL_clear_144 : decode cL_clear 144 = .ok (.aload_n 1, 1) := by decide +kernel
theorem dL_clear_145 : decode cL_clear 145 = .ok (.bipush 13, 2) := by decide +kernel
theorem dL_clear_147 : decode cL_clear 147 = .ok (.iconst 0, 1) := by decide +kernel
theorem dL_clear_148 : decode cL_clear 148 = .ok (.iconst 0, 1) := by decide +kernel
theorem dL_clear_149 : decode cL_clear 149 = .ok (.iconst 0, 1) := by decide +kernel
theorem dL_clear_150 : decode cL_clear 150 = .ok (.invokestatic 168, 3) := by decide +kernel
theorem dL_clear_153 : decode cL_clear 153 = .ok (.invokestatic 214, 3) := by decide +kernel
theorem dL_clear_156 : decode cL_clear 156 = .ok (.ifCond .ne 12, 3) := by decide +kernel
theorem dL_clear_159 : decode cL_clear 159 = .ok (.iload 5, 2) := by decide +kernel
theorem dL_clear_161 : decode cL_clear 161 = .ok (.ifCond .eq 7, 3) := by decide +kernel
theorem dL_clear_164 : decode cL_clear 164 = .ok (.iconst 1, 1) := by decide +kernel
theorem dL_clear_165 : decode cL_clear 165 = .ok (.goto 4, 3) := by decide +kernel
theorem dL_clear_168 : decode cL_clear 168 = .ok (.iconst 0, 1) := by decide +kernel
theorem dL_clear_169 : decode cL_clear 169 = .ok (.ireturn, 1) := by decide +kernel
