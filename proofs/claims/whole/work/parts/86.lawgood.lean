set_option maxRecDepth 20000 in
theorem ggL_law_X5_init : GoodIn wsL_law wsX5_init := goodIn_r _ [8, 9, 10, 11, 12, 13, 14, 15, 16, 17, 18, 19, 20, 21, 22, 23, 24, 25, 26, 27, 28, 29, 30, 31, 32, 33, 34, 35, 36, 37, 38, 39, 40, 41, 42, 43, 44, 45, 46, 47, 48, 49, 50, 51, 52, 53, 54, 55, 56, 57, 58, 59, 60, 61, 62, 63, 64, 65, 66, 67, 68, 69, 70, 71, 72, 73, 74, 75, 76, 77, 78, 79, 80, 678, 679, 680, 681, 682, 683, 684, 685, 686, 687, 688, 689, 690, 691, 692, 666, 667, 668, 669, 670, 671, 693, 694, 695, 696, 697, 698, 699, 700, 701, 702] (by decide +kernel) (by decide +kernel)
set_option maxRecDepth 20000 in
theorem gL_law_X5_init : GoodIn wsL_law (wsX5_init) := ggL_law_X5_init
set_option maxRecDepth 20000 in
theorem ggL_law_X6_init : GoodIn wsL_law wsX6_init := goodIn_r _ [83, 84, 10, 11, 32, 85, 86, 87, 672, 673, 674, 675, 676, 677] (by decide +kernel) (by decide +kernel)
set_option maxRecDepth 20000 in
theorem gL_law_X6_init : GoodIn wsL_law (wsX6_init) := ggL_law_X6_init
set_option maxRecDepth 20000 in
theorem ggL_law_X5_told : GoodIn wsL_law wsX5_told := goodIn_r _ [91, 15, 92, 93, 94, 23, 95, 19, 96, 97, 98, 99, 100, 14, 101, 75, 74, 102, 103, 104, 105, 46, 106, 107, 108, 109, 110, 111, 112, 113, 114, 48, 115, 116, 117, 118, 119, 120, 121, 122, 40, 123, 124, 125, 126, 127, 128, 129, 130, 131, 132, 133, 134, 135, 45, 136, 137, 138, 139, 140, 141, 142, 143, 144, 145, 146, 147, 148, 149, 150, 151, 152, 153, 154, 22, 155, 156, 57, 157, 58, 158, 159, 160, 161, 666, 667, 668, 669, 670, 671, 678, 679, 680, 681, 682, 683, 684, 685, 686, 687, 688, 689, 690, 691, 692, 696, 697, 698, 693, 694, 695] (by decide +kernel) (by decide +kernel)
set_option maxRecDepth 20000 in
theorem gL_law_X5_told : GoodIn wsL_law (wsV RL 13 RX5 yX5_told wsX5_told) := goodIn_app (goodIn_of _ (by decide +kernel)) ggL_law_X5_told
set_option maxRecDepth 20000 in
theorem ggL_law_X6_told : GoodIn wsL_law wsX6_told := goodIn_r _ [165, 85, 166, 167, 168, 169, 170, 171, 5, 172, 173, 174, 175, 176, 177, 178, 179, 180, 181, 182, 183, 184, 185, 186, 187, 188, 189, 190, 191, 192, 193, 194, 195, 196, 197, 198, 199, 200, 201, 202, 203, 204, 205, 206, 207, 208, 86, 87, 209, 210, 211, 212, 213, 214, 215, 672, 673, 674, 675, 676, 677] (by decide +kernel) (by decide +kernel)
set_option maxRecDepth 20000 in
theorem gL_law_X6_told : GoodIn wsL_law (wsV RL 17 RX6 yX6_told wsX6_told) := goodIn_app (goodIn_of _ (by decide +kernel)) ggL_law_X6_told
set_option maxRecDepth 20000 in
theorem ggL_law_X5_section : GoodIn wsL_law wsX5_section := goodIn_r _ [219, 15, 220, 221, 222, 223, 224, 97, 225, 159, 160, 14, 161, 74, 226, 227, 228, 229, 45, 230, 231, 232, 233, 234, 235, 236, 237, 42, 43, 238, 239, 240, 241, 75, 242, 243, 244, 245, 246, 247, 248, 249, 250, 251, 252, 253, 46, 254, 666, 667, 668, 669, 670, 671, 678, 679, 680, 681, 682, 683, 684, 685, 686, 687, 688, 689, 690, 691, 692] (by decide +kernel) (by decide +kernel)
set_option maxRecDepth 20000 in
theorem gL_law_X5_section : GoodIn wsL_law (wsV RL 18 RX5 yX5_section wsX5_section) := goodIn_app (goodIn_of _ (by decide +kernel)) ggL_law_X5_section
set_option maxRecDepth 20000 in
theorem ggL_law_X6_section : GoodIn wsL_law wsX6_section := goodIn_r _ [258, 259, 85, 168, 209, 210, 211, 5, 212, 213, 214, 215, 260, 261, 262, 263, 264, 265, 266, 267, 268, 269, 270, 271, 272, 273, 274, 275, 276, 277, 278, 279, 280, 281, 282, 283, 672, 673, 674, 675, 676, 677] (by decide +kernel) (by decide +kernel)
set_option maxRecDepth 20000 in
theorem gL_law_X6_section : GoodIn wsL_law (wsV RL 22 RX6 yX6_section wsX6_section) := goodIn_app (goodIn_of _ (by decide +kernel)) ggL_law_X6_section
set_option maxRecDepth 20000 in
theorem ggL_law_X5_head : GoodIn wsL_law wsX5_head := goodIn_r _ [287, 15, 220, 288, 289, 290, 291, 292, 293, 294, 295, 97, 296, 297, 298, 14, 299, 123, 99, 100, 101, 75, 74, 300, 301, 302, 303, 140, 141, 142, 143, 136, 137, 138, 139, 254, 159, 160, 161, 304, 305, 306, 307, 45, 308, 129, 130, 131, 132, 133, 134, 135, 309, 310, 2, 311, 666, 667, 668, 669, 670, 671, 678, 679, 680, 681, 682, 683, 684, 685, 686, 687, 688, 689, 690, 691, 692] (by decide +kernel) (by decide +kernel)
set_option maxRecDepth 20000 in
theorem gL_law_X5_head : GoodIn wsL_law (wsV RL 23 RX5 yX5_head wsX5_head) := goodIn_app (goodIn_of _ (by decide +kernel)) ggL_law_X5_head
set_option maxRecDepth 20000 in
theorem ggL_law_X6_head : GoodIn wsL_law wsX6_head := goodIn_r _ [315, 259, 85, 168, 316, 317, 318, 5, 319, 169, 170, 171, 172, 213, 214, 215, 320, 321, 322, 323, 324, 325, 326, 327, 197, 198, 199, 200, 193, 194, 195, 196, 185, 186, 187, 188, 189, 190, 191, 192, 672, 673, 674, 675, 676, 677] (by decide +kernel) (by decide +kernel)
set_option maxRecDepth 20000 in
theorem gL_law_X6_head : GoodIn wsL_law (wsV RL 26 RX6 yX6_head wsX6_head) := goodIn_app (goodIn_of _ (by decide +kernel)) ggL_law_X6_head
set_option maxRecDepth 20000 in
theorem ggL_law_X5_line : GoodIn wsL_law wsX5_line := goodIn_r _ [331, 97, 19, 15, 23, 95, 332, 333, 334, 18, 335, 53, 336, 337, 338, 339, 340, 14, 341, 74, 75, 76, 37, 38, 39, 40, 41, 42, 43, 44, 45, 46, 47, 48, 342, 343, 344, 345, 346, 347, 348, 70, 71, 72, 73, 77, 78, 79, 80, 98, 99, 100, 101, 666, 667, 668, 669, 670, 671, 696, 697, 698, 693, 694, 695, 678, 679, 680, 681, 682, 683, 684, 685, 686, 687, 688, 689, 690, 691, 692] (by decide +kernel) (by decide +kernel)
set_option maxRecDepth 20000 in
theorem gL_law_X5_line : GoodIn wsL_law (wsV RL 27 RX5 yX5_line wsX5_line) := goodIn_app (goodIn_of _ (by decide +kernel)) ggL_law_X5_line
set_option maxRecDepth 20000 in
theorem ggL_law_X6_line : GoodIn wsL_law wsX6_line := goodIn_r _ [352, 168, 85, 166, 213, 214, 5, 215, 353, 354, 355, 356, 167, 357, 358, 359, 360, 169, 170, 171, 172, 672, 673, 674, 675, 676, 677] (by decide +kernel) (by decide +kernel)
set_option maxRecDepth 20000 in
theorem gL_law_X6_line : GoodIn wsL_law (wsV RL 31 RX6 yX6_line wsX6_line) := goodIn_app (goodIn_of _ (by decide +kernel)) ggL_law_X6_line
set_option maxRecDepth 20000 in
theorem ggL_law_X5_feel : GoodIn wsL_law wsX5_feel := goodIn_r _ [364, 15, 220, 97, 293, 288, 365, 19, 296, 297, 298, 14, 299, 123, 99, 100, 101, 75, 74, 332, 333, 334, 18, 335, 53, 336, 337, 338, 339, 340, 341, 76, 37, 38, 39, 40, 41, 42, 43, 44, 45, 46, 47, 48, 342, 343, 344, 345, 346, 347, 348, 366, 367, 368, 369, 370, 371, 372, 373, 374, 666, 667, 668, 669, 670, 671, 678, 679, 680, 681, 682, 683, 684, 685, 686, 687, 688, 689, 690, 691, 692, 693, 694, 695] (by decide +kernel) (by decide +kernel)
set_option maxRecDepth 20000 in
theorem gL_law_X5_feel : GoodIn wsL_law (wsV RL 32 RX5 yX5_feel wsX5_feel) := goodIn_app (goodIn_of _ (by decide +kernel)) ggL_law_X5_feel
set_option maxRecDepth 20000 in
theorem ggL_law_X6_feel : GoodIn wsL_law wsX6_feel := goodIn_r _ [378, 259, 168, 85, 379, 316, 317, 318, 5, 319, 169, 170, 171, 172, 213, 214, 215, 353, 354, 355, 356, 167, 357, 358, 359, 360, 380, 381, 382, 383, 384, 385, 386, 672, 673, 674, 675, 676, 677] (by decide +kernel) (by decide +kernel)
set_option maxRecDepth 20000 in
theorem gL_law_X6_feel : GoodIn wsL_law (wsV RL 35 RX6 yX6_feel wsX6_feel) := goodIn_app (goodIn_of _ (by decide +kernel)) ggL_law_X6_feel
set_option maxRecDepth 20000 in
theorem ggL_law_X5_go : GoodIn wsL_law wsX5_go := goodIn_r _ [390, 15, 365, 19, 391, 392, 393, 2, 394, 220, 97, 296, 297, 298, 14, 299, 123, 99, 100, 101, 75, 74, 395, 396, 397, 398, 48, 399, 400, 401, 402, 140, 141, 142, 143, 136, 137, 138, 139, 254, 159, 160, 161, 403, 404, 405, 406, 40, 37, 332, 333, 334, 18, 335, 53, 336, 337, 338, 339, 340, 341, 76, 38, 39, 41, 42, 43, 44, 45, 46, 47, 342, 343, 344, 345, 346, 347, 348, 407, 408, 409, 410, 666, 667, 668, 669, 670, 671, 678, 679, 680, 681, 682, 683, 684, 685, 686, 687, 688, 689, 690, 691, 692, 693, 694, 695] (by decide +kernel) (by decide +kernel)
set_option maxRecDepth 20000 in
theorem gL_law_X5_go : GoodIn wsL_law (wsV RL 36 RX5 yX5_go wsX5_go) := goodIn_app (goodIn_of _ (by decide +kernel)) ggL_law_X5_go
set_option maxRecDepth 20000 in
theorem ggL_law_X6_go : GoodIn wsL_law wsX6_go := goodIn_r _ [414, 415, 416, 417, 5, 418, 259, 168, 379, 316, 317, 318, 319, 169, 170, 171, 172, 85, 213, 214, 215, 419, 420, 421, 422, 197, 198, 199, 200, 193, 194, 195, 196, 423, 424, 425, 426, 353, 354, 355, 356, 167, 357, 358, 359, 360, 427, 428, 429, 430, 672, 673, 674, 675, 676, 677] (by decide +kernel) (by decide +kernel)
set_option maxRecDepth 20000 in
theorem gL_law_X6_go : GoodIn wsL_law (wsV RL 40 RX6 yX6_go wsX6_go) := goodIn_app (goodIn_of _ (by decide +kernel)) ggL_law_X6_go
set_option maxRecDepth 20000 in
theorem ggL_law_X5_miss : GoodIn wsL_law wsX5_miss := goodIn_r _ [434, 19, 15, 391, 392, 393, 2, 394, 220, 97, 365, 296, 297, 298, 14, 299, 123, 99, 100, 101, 75, 74, 395, 396, 397, 398, 48, 399, 400, 401, 402, 140, 141, 142, 143, 136, 137, 138, 139, 254, 159, 160, 161, 332, 333, 334, 18, 335, 53, 336, 337, 338, 339, 340, 341, 76, 37, 38, 39, 40, 41, 42, 43, 44, 45, 46, 47, 342, 343, 344, 345, 346, 347, 348, 407, 408, 409, 410, 666, 667, 668, 669, 670, 671, 678, 679, 680, 681, 682, 683, 684, 685, 686, 687, 688, 689, 690, 691, 692, 693, 694, 695] (by decide +kernel) (by decide +kernel)
set_option maxRecDepth 20000 in
theorem gL_law_X5_miss : GoodIn wsL_law (wsV RL 41 RX5 yX5_miss wsX5_miss) := goodIn_app (goodIn_of _ (by decide +kernel)) ggL_law_X5_miss
set_option maxRecDepth 20000 in
theorem ggL_law_X6_miss : GoodIn wsL_law wsX6_miss := goodIn_r _ [438, 415, 416, 417, 5, 418, 259, 168, 379, 316, 317, 318, 319, 169, 170, 171, 172, 85, 213, 214, 215, 419, 420, 421, 422, 197, 198, 199, 200, 193, 194, 195, 196, 423, 424, 425, 426, 353, 354, 355, 356, 167, 357, 358, 359, 360, 427, 428, 429, 430, 672, 673, 674, 675, 676, 677] (by decide +kernel) (by decide +kernel)
set_option maxRecDepth 20000 in
theorem gL_law_X6_miss : GoodIn wsL_law (wsV RL 44 RX6 yX6_miss wsX6_miss) := goodIn_app (goodIn_of _ (by decide +kernel)) ggL_law_X6_miss
set_option maxRecDepth 20000 in
theorem ggL_law_X5_tick : GoodIn wsL_law wsX5_tick := goodIn_r _ [442, 15, 220, 19, 443, 444, 445, 14, 446, 123, 99, 100, 101, 75, 74, 332, 333, 334, 18, 335, 53, 336, 337, 338, 339, 340, 341, 76, 37, 38, 39, 40, 41, 42, 43, 44, 45, 46, 47, 48, 342, 343, 344, 345, 346, 347, 348, 447, 448, 449, 450, 451, 452, 453, 454, 455, 456, 457, 458, 136, 137, 138, 139, 459, 460, 461, 462, 254, 159, 160, 161, 140, 141, 142, 143, 463, 464, 465, 466, 467, 227, 228, 229, 230, 231, 232, 233, 234, 235, 236, 237, 238, 239, 240, 241, 468, 469, 470, 471, 472, 301, 302, 303, 473, 474, 475, 476, 477, 305, 306, 307, 478, 479, 480, 481, 482, 483, 484, 485, 102, 103, 104, 105, 666, 667, 668, 669, 670, 671, 678, 679, 680, 681, 682, 683, 684, 685, 686, 687, 688, 689, 690, 691, 692, 693, 694, 695] (by decide +kernel) (by decide +kernel)
set_option maxRecDepth 20000 in
theorem gL_law_X5_tick : GoodIn wsL_law (wsV RL 45 RX5 yX5_tick wsX5_tick) := goodIn_app (goodIn_of _ (by decide +kernel)) ggL_law_X5_tick
set_option maxRecDepth 20000 in
theorem ggL_law_X6_tick : GoodIn wsL_law wsX6_tick := goodIn_r _ [489, 259, 490, 491, 492, 5, 493, 169, 170, 171, 172, 85, 213, 214, 215, 353, 354, 355, 356, 167, 357, 358, 359, 360, 494, 495, 496, 497, 498, 499, 500, 501, 502, 503, 504, 193, 194, 195, 196, 197, 198, 199, 200, 505, 506, 507, 508, 260, 261, 262, 263, 264, 265, 266, 267, 268, 269, 270, 271, 272, 273, 274, 275, 509, 510, 511, 512, 324, 325, 326, 327, 513, 514, 515, 516, 173, 174, 175, 176, 672, 673, 674, 675, 676, 677] (by decide +kernel) (by decide +kernel)
set_option maxRecDepth 20000 in
theorem gL_law_X6_tick : GoodIn wsL_law (wsV RL 48 RX6 yX6_tick wsX6_tick) := goodIn_app (goodIn_of _ (by decide +kernel)) ggL_law_X6_tick
set_option maxRecDepth 20000 in
theorem ggL_law_X5_reset : GoodIn wsL_law wsX5_reset := goodIn_r _ [520, 15, 220, 221, 365, 19, 222, 225, 159, 160, 14, 161, 74, 332, 333, 334, 18, 335, 53, 336, 337, 338, 339, 340, 341, 75, 76, 37, 38, 39, 40, 41, 42, 43, 44, 45, 46, 47, 48, 342, 343, 344, 345, 346, 347, 348, 521, 522, 523, 524, 666, 667, 668, 669, 670, 671, 678, 679, 680, 681, 682, 683, 684, 685, 686, 687, 688, 689, 690, 691, 692, 693, 694, 695] (by decide +kernel) (by decide +kernel)
set_option maxRecDepth 20000 in
theorem gL_law_X5_reset : GoodIn wsL_law (wsV RL 49 RX5 yX5_reset wsX5_reset) := goodIn_app (goodIn_of _ (by decide +kernel)) ggL_law_X5_reset
set_option maxRecDepth 20000 in
theorem ggL_law_X6_reset : GoodIn wsL_law wsX6_reset := goodIn_r _ [528, 259, 85, 379, 209, 210, 211, 5, 212, 213, 214, 215, 353, 354, 355, 356, 167, 357, 358, 359, 360, 672, 673, 674, 675, 676, 677] (by decide +kernel) (by decide +kernel)
set_option maxRecDepth 20000 in
theorem gL_law_X6_reset : GoodIn wsL_law (wsV RL 52 RX6 yX6_reset wsX6_reset) := goodIn_app (goodIn_of _ (by decide +kernel)) ggL_law_X6_reset
set_option maxRecDepth 20000 in
theorem ggL_law_X5_repair : GoodIn wsL_law wsX5_repair := goodIn_r _ [532, 15, 220, 293, 365, 19, 288, 296, 297, 298, 14, 299, 123, 99, 100, 101, 75, 74, 332, 333, 334, 18, 335, 53, 336, 337, 338, 339, 340, 341, 76, 37, 38, 39, 40, 41, 42, 43, 44, 45, 46, 47, 48, 342, 343, 344, 345, 346, 347, 348, 533, 534, 535, 536, 666, 667, 668, 669, 670, 671, 678, 679, 680, 681, 682, 683, 684, 685, 686, 687, 688, 689, 690, 691, 692, 693, 694, 695] (by decide +kernel) (by decide +kernel)
set_option maxRecDepth 20000 in
theorem gL_law_X5_repair : GoodIn wsL_law (wsV RL 53 RX5 yX5_repair wsX5_repair) := goodIn_app (goodIn_of _ (by decide +kernel)) ggL_law_X5_repair
set_option maxRecDepth 20000 in
theorem ggL_law_X6_repair : GoodIn wsL_law wsX6_repair := goodIn_r _ [540, 259, 85, 379, 316, 317, 318, 5, 319, 169, 170, 171, 172, 213, 214, 215, 353, 354, 355, 356, 167, 357, 358, 359, 360, 672, 673, 674, 675, 676, 677] (by decide +kernel) (by decide +kernel)
set_option maxRecDepth 20000 in
theorem gL_law_X6_repair : GoodIn wsL_law (wsV RL 56 RX6 yX6_repair wsX6_repair) := goodIn_app (goodIn_of _ (by decide +kernel)) ggL_law_X6_repair
set_option maxRecDepth 20000 in
theorem ggL_law_X5_drift : GoodIn wsL_law wsX5_drift := goodIn_r _ [544, 97, 19, 15, 332, 333, 334, 18, 335, 53, 336, 337, 338, 339, 340, 14, 341, 74, 75, 76, 37, 38, 39, 40, 41, 42, 43, 44, 45, 46, 47, 48, 342, 343, 344, 345, 346, 347, 348, 545, 546, 547, 2, 548, 27, 98, 99, 100, 101, 549, 550, 551, 26, 552, 553, 554, 555, 556, 395, 396, 397, 398, 399, 400, 401, 402, 140, 141, 142, 143, 136, 137, 138, 139, 254, 159, 160, 161, 403, 404, 405, 406, 407, 408, 409, 410, 447, 448, 449, 450, 451, 452, 453, 454, 123, 455, 456, 457, 458, 459, 460, 461, 462, 463, 464, 465, 466, 467, 227, 228, 229, 230, 231, 232, 233, 234, 235, 236, 237, 238, 239, 240, 241, 468, 469, 470, 471, 472, 301, 302, 303, 473, 474, 475, 476, 477, 305, 306, 307, 478, 479, 480, 481, 482, 483, 484, 485, 102, 103, 104, 105, 666, 667, 668, 669, 670, 671, 693, 694, 695, 678, 679, 680, 681, 682, 683, 684, 685, 686, 687, 688, 689, 690, 691, 692, 699] (by decide +kernel) (by decide +kernel)
set_option maxRecDepth 20000 in
theorem gL_law_X5_drift : GoodIn wsL_law (wsV RL 57 RX5 yX5_drift wsX5_drift) := goodIn_app (goodIn_of _ (by decide +kernel)) ggL_law_X5_drift
set_option maxRecDepth 20000 in
theorem ggL_law_X6_drift : GoodIn wsL_law wsX6_drift := goodIn_r _ [560, 168, 213, 214, 5, 215, 353, 354, 355, 356, 167, 357, 358, 359, 360, 85, 561, 562, 563, 564, 169, 170, 171, 172, 565, 566, 567, 568, 569, 570, 571, 572, 419, 420, 421, 422, 197, 198, 199, 200, 193, 194, 195, 196, 423, 424, 425, 426, 427, 428, 429, 430, 494, 495, 496, 497, 498, 499, 500, 501, 502, 503, 504, 505, 506, 507, 508, 260, 261, 262, 263, 264, 265, 266, 267, 268, 269, 270, 271, 272, 273, 274, 275, 509, 510, 511, 512, 324, 325, 326, 327, 513, 514, 515, 516, 173, 174, 175, 176, 672, 673, 674, 675, 676, 677] (by decide +kernel) (by decide +kernel)
set_option maxRecDepth 20000 in
theorem gL_law_X6_drift : GoodIn wsL_law (wsV RL 60 RX6 yX6_drift wsX6_drift) := goodIn_app (goodIn_of _ (by decide +kernel)) ggL_law_X6_drift
set_option maxRecDepth 20000 in
theorem ggL_law_X5_undo : GoodIn wsL_law wsX5_undo := goodIn_r _ [576, 97, 19, 96, 365, 15, 577, 578, 579, 18, 580, 337, 336, 53, 581, 582, 583, 14, 584, 74, 75, 76, 37, 38, 39, 40, 41, 42, 43, 44, 45, 46, 47, 48, 585, 586, 587, 345, 346, 347, 348, 666, 667, 668, 669, 670, 671, 693, 694, 695, 678, 679, 680, 681, 682, 683, 684, 685, 686, 687, 688, 689, 690, 691, 692] (by decide +kernel) (by decide +kernel)
set_option maxRecDepth 20000 in
theorem gL_law_X5_undo : GoodIn wsL_law (wsV RL 61 RX5 yX5_undo wsX5_undo) := goodIn_app (goodIn_of _ (by decide +kernel)) ggL_law_X5_undo
set_option maxRecDepth 20000 in
theorem ggL_law_X6_undo : GoodIn wsL_law wsX6_undo := goodIn_r _ [591, 168, 167, 379, 85, 213, 214, 5, 215, 357, 358, 359, 360, 672, 673, 674, 675, 676, 677] (by decide +kernel) (by decide +kernel)
set_option maxRecDepth 20000 in
theorem gL_law_X6_undo : GoodIn wsL_law (wsV RL 64 RX6 yX6_undo wsX6_undo) := goodIn_app (goodIn_of _ (by decide +kernel)) ggL_law_X6_undo
set_option maxRecDepth 20000 in
theorem ggL_law_X5_would : GoodIn wsL_law wsX5_would := goodIn_r _ [595, 15, 220, 33, 443, 444, 445, 14, 446, 123, 99, 100, 101, 75, 74, 596, 339, 340, 341, 76, 37, 38, 39, 40, 41, 42, 43, 44, 45, 46, 47, 48, 342, 343, 344, 345, 346, 347, 348, 447, 448, 449, 450, 451, 452, 453, 454, 455, 456, 457, 458, 136, 137, 138, 139, 459, 460, 461, 462, 254, 159, 160, 161, 140, 141, 142, 143, 463, 464, 465, 466, 467, 227, 228, 229, 230, 231, 232, 233, 234, 235, 236, 237, 238, 239, 240, 241, 468, 469, 470, 471, 472, 301, 302, 303, 473, 474, 475, 476, 477, 305, 306, 307, 478, 479, 480, 481, 482, 483, 484, 485, 102, 103, 104, 105, 597, 582, 583, 584, 585, 586, 587, 666, 667, 668, 669, 670, 671, 678, 679, 680, 681, 682, 683, 684, 685, 686, 687, 688, 689, 690, 691, 692] (by decide +kernel) (by decide +kernel)
set_option maxRecDepth 20000 in
theorem gL_law_X5_would : GoodIn wsL_law (wsV RL 65 RX5 yX5_would wsX5_would) := goodIn_app (goodIn_of _ (by decide +kernel)) ggL_law_X5_would
set_option maxRecDepth 20000 in
theorem ggL_law_X6_would : GoodIn wsL_law wsX6_would := goodIn_r _ [601, 259, 490, 491, 492, 5, 493, 169, 170, 171, 172, 85, 213, 214, 215, 357, 358, 359, 360, 494, 495, 496, 497, 498, 499, 500, 501, 502, 503, 504, 193, 194, 195, 196, 197, 198, 199, 200, 505, 506, 507, 508, 260, 261, 262, 263, 264, 265, 266, 267, 268, 269, 270, 271, 272, 273, 274, 275, 509, 510, 511, 512, 324, 325, 326, 327, 513, 514, 515, 516, 173, 174, 175, 176, 672, 673, 674, 675, 676, 677] (by decide +kernel) (by decide +kernel)
set_option maxRecDepth 20000 in
theorem gL_law_X6_would : GoodIn wsL_law (wsV RL 68 RX6 yX6_would wsX6_would) := goodIn_app (goodIn_of _ (by decide +kernel)) ggL_law_X6_would
set_option maxRecDepth 20000 in
theorem ggL_law_X5_write : GoodIn wsL_law wsX5_write := goodIn_r _ [605, 15, 220, 97, 23, 95, 606, 225, 159, 160, 14, 161, 74, 607, 608, 609, 22, 610, 156, 57, 58, 666, 667, 668, 669, 670, 671, 696, 697, 698, 678, 679, 680, 681, 682, 683, 684, 685, 686, 687, 688, 689, 690, 691, 692] (by decide +kernel) (by decide +kernel)
set_option maxRecDepth 20000 in
theorem gL_law_X5_write : GoodIn wsL_law (wsV RL 69 RX5 yX5_write wsX5_write) := goodIn_app (goodIn_of _ (by decide +kernel)) ggL_law_X5_write
set_option maxRecDepth 20000 in
theorem ggL_law_X6_write : GoodIn wsL_law wsX6_write := goodIn_r _ [614, 259, 168, 166, 615, 86, 87, 209, 210, 211, 5, 212, 85, 213, 214, 215, 672, 673, 674, 675, 676, 677] (by decide +kernel) (by decide +kernel)
set_option maxRecDepth 20000 in
theorem gL_law_X6_write : GoodIn wsL_law (wsV RL 72 RX6 yX6_write wsX6_write) := goodIn_app (goodIn_of _ (by decide +kernel)) ggL_law_X6_write
set_option maxRecDepth 20000 in
theorem ggL_law_X5_tear : GoodIn wsL_law wsX5_tear := goodIn_r _ [619, 23, 95, 666, 667, 668, 669, 670, 671, 696, 697, 698] (by decide +kernel) (by decide +kernel)
set_option maxRecDepth 20000 in
theorem gL_law_X5_tear : GoodIn wsL_law (wsV RL 73 RX5 yX5_tear wsX5_tear) := goodIn_app (goodIn_of _ (by decide +kernel)) ggL_law_X5_tear
set_option maxRecDepth 20000 in
theorem ggL_law_X6_tear : GoodIn wsL_law wsX6_tear := goodIn_r _ [623, 166, 672, 673, 674, 675, 676, 677] (by decide +kernel) (by decide +kernel)
set_option maxRecDepth 20000 in
theorem gL_law_X6_tear : GoodIn wsL_law (wsV RL 77 RX6 yX6_tear wsX6_tear) := goodIn_app (goodIn_of _ (by decide +kernel)) ggL_law_X6_tear
set_option maxRecDepth 20000 in
theorem ggL_law_X5_seed : GoodIn wsL_law wsX5_seed := goodIn_r _ [627, 97, 27, 628, 666, 667, 668, 669, 670, 671, 699] (by decide +kernel) (by decide +kernel)
set_option maxRecDepth 20000 in
theorem gL_law_X5_seed : GoodIn wsL_law (wsV RL 78 RX5 yX5_seed wsX5_seed) := goodIn_app (goodIn_of _ (by decide +kernel)) ggL_law_X5_seed
set_option maxRecDepth 20000 in
theorem ggL_law_X6_seed : GoodIn wsL_law wsX6_seed := goodIn_r _ [632, 168, 85, 672, 673, 674, 675, 676, 677] (by decide +kernel) (by decide +kernel)
set_option maxRecDepth 20000 in
theorem gL_law_X6_seed : GoodIn wsL_law (wsV RL 81 RX6 yX6_seed wsX6_seed) := goodIn_app (goodIn_of _ (by decide +kernel)) ggL_law_X6_seed
set_option maxRecDepth 20000 in
theorem ggL_law_X5_keep : GoodIn wsL_law wsX5_keep := goodIn_r _ [636, 31, 220, 15, 27, 19, 96, 637, 638, 639, 30, 640, 641, 642, 643, 644, 66, 67, 645, 69, 646, 339, 340, 14, 341, 74, 75, 76, 37, 38, 39, 40, 41, 42, 43, 44, 45, 46, 47, 48, 342, 343, 344, 345, 346, 347, 348, 666, 667, 668, 669, 670, 671, 693, 694, 695, 700, 701, 702, 699, 678, 679, 680, 681, 682, 683, 684, 685, 686, 687, 688, 689, 690, 691, 692] (by decide +kernel) (by decide +kernel)
set_option maxRecDepth 20000 in
theorem gL_law_X5_keep : GoodIn wsL_law (wsV RL 82 RX5 yX5_keep wsX5_keep) := goodIn_app (goodIn_of _ (by decide +kernel)) ggL_law_X5_keep
set_option maxRecDepth 20000 in
theorem ggL_law_X6_keep : GoodIn wsL_law wsX6_keep := goodIn_r _ [650, 259, 651, 167, 213, 214, 5, 215, 357, 358, 359, 360, 85, 672, 673, 674, 675, 676, 677] (by decide +kernel) (by decide +kernel)
set_option maxRecDepth 20000 in
theorem gL_law_X6_keep : GoodIn wsL_law (wsV RL 85 RX6 yX6_keep wsX6_keep) := goodIn_app (goodIn_of _ (by decide +kernel)) ggL_law_X6_keep
set_option maxRecDepth 20000 in
theorem ggL_law_X5_goBack : GoodIn wsL_law wsX5_goBack := goodIn_r _ [655, 31, 220, 656, 365, 15, 27, 19, 96, 637, 638, 639, 30, 640, 657, 658, 659, 660, 66, 67, 645, 661, 582, 583, 14, 584, 74, 75, 76, 37, 38, 39, 40, 41, 42, 43, 44, 45, 46, 47, 48, 585, 586, 587, 345, 346, 347, 348, 666, 667, 668, 669, 670, 671, 700, 701, 702, 693, 694, 695, 699, 678, 679, 680, 681, 682, 683, 684, 685, 686, 687, 688, 689, 690, 691, 692] (by decide +kernel) (by decide +kernel)
set_option maxRecDepth 20000 in
theorem gL_law_X5_goBack : GoodIn wsL_law (wsV RL 86 RX5 yX5_goBack wsX5_goBack) := goodIn_app (goodIn_of _ (by decide +kernel)) ggL_law_X5_goBack
set_option maxRecDepth 20000 in
theorem ggL_law_X6_goBack : GoodIn wsL_law wsX6_goBack := goodIn_r _ [665, 259, 651, 379, 167, 213, 214, 5, 215, 498, 499, 500, 357, 358, 359, 360, 85, 672, 673, 674, 675, 676, 677] (by decide +kernel) (by decide +kernel)
set_option maxRecDepth 20000 in
theorem gL_law_X6_goBack : GoodIn wsL_law (wsV RL 89 RX6 yX6_goBack wsX6_goBack) := goodIn_app (goodIn_of _ (by decide +kernel)) ggL_law_X6_goBack
