set_option maxRecDepth 20000 in
theorem ggL_law_X2_serve : GoodIn wsL_law wsX2_serve := goodIn_r _ [350, 15, 351, 303, 304, 305, 2, 306, 64, 352, 353, 354, 14, 355, 92, 356, 357, 358, 359, 360, 361, 362, 721, 722, 723, 724, 725, 726, 727, 728, 755, 756, 757, 758, 759, 760, 761, 762] (by decide +kernel) (by decide +kernel)
set_option maxRecDepth 20000 in
theorem gL_law_X2_serve : GoodIn wsL_law (wsV RL 52 RX2 yX2_serve wsX2_serve) := goodIn_app (goodIn_of _ (by decide +kernel)) ggL_law_X2_serve
set_option maxRecDepth 20000 in
theorem ggL_law_X3_serve : GoodIn wsL_law wsX3_serve := goodIn_r _ [366, 138, 139, 367, 368, 5, 369, 729, 730, 731, 732, 733, 734, 735, 736, 737, 738, 739, 740, 741, 742, 743, 744, 745, 746, 747, 748, 749, 750, 751, 752, 753, 754] (by decide +kernel) (by decide +kernel)
set_option maxRecDepth 20000 in
theorem gL_law_X3_serve : GoodIn wsL_law (wsV RL 56 RX3 yX3_serve wsX3_serve) := goodIn_app (goodIn_of _ (by decide +kernel)) ggL_law_X3_serve
set_option maxRecDepth 20000 in
theorem ggL_law_X2_dinner : GoodIn wsL_law wsX2_dinner := goodIn_r _ [373, 62, 18, 16, 15, 65, 66, 2, 67, 68, 69, 70, 374, 375, 376, 303, 304, 305, 306, 64, 71, 72, 73, 20, 74, 36, 75, 76, 77, 78, 79, 80, 81, 82, 83, 84, 85, 86, 87, 377, 378, 379, 380, 381, 100, 101, 102, 35, 191, 192, 193, 194, 324, 325, 326, 121, 122, 123, 14, 124, 27, 125, 126, 127, 128, 28, 29, 30, 31, 93, 94, 92, 382, 383, 384, 385, 99, 386, 328, 329, 330, 199, 200, 201, 202, 387, 332, 333, 334, 388, 389, 390, 391, 307, 308, 309, 310, 311, 288, 289, 290, 271, 204, 205, 206, 352, 353, 354, 355, 356, 357, 358, 359, 360, 361, 362, 195, 196, 197, 198, 227, 228, 229, 230, 231, 287, 721, 722, 723, 724, 725, 726, 727, 728, 755, 756, 757, 758, 759, 760, 761, 762, 763, 764, 765] (by decide +kernel) (by decide +kernel)
set_option maxRecDepth 20000 in
theorem gL_law_X2_dinner : GoodIn wsL_law (wsV RL 57 RX2 yX2_dinner wsX2_dinner) := goodIn_app (goodIn_of _ (by decide +kernel)) ggL_law_X2_dinner
set_option maxRecDepth 20000 in
theorem ggL_law_X3_dinner : GoodIn wsL_law wsX3_dinner := goodIn_r _ [395, 144, 396, 397, 398, 399, 133, 138, 139, 51, 44, 141, 142, 5, 143, 145, 146, 147, 148, 149, 150, 151, 152, 153, 154, 155, 156, 54, 55, 157, 158, 159, 160, 161, 162, 163, 400, 401, 402, 403, 56, 211, 212, 213, 214, 404, 405, 406, 407, 408, 409, 410, 411, 43, 339, 340, 341, 342, 136, 215, 216, 217, 343, 344, 345, 346, 236, 237, 238, 239, 295, 296, 297, 298, 279, 280, 281, 282, 218, 219, 220, 221, 45, 42, 316, 317, 318, 319, 41, 367, 368, 369, 729, 730, 731, 732, 733, 734, 735, 736, 737, 738, 739, 740, 741, 742, 743, 744, 745, 746, 747, 748, 749, 750, 751, 752, 753, 754] (by decide +kernel) (by decide +kernel)
set_option maxRecDepth 20000 in
theorem gL_law_X3_dinner : GoodIn wsL_law (wsV RL 61 RX3 yX3_dinner wsX3_dinner) := goodIn_app (goodIn_of _ (by decide +kernel)) ggL_law_X3_dinner
set_option maxRecDepth 20000 in
theorem ggL_law_X2_good : GoodIn wsL_law wsX2_good := goodIn_r _ [415, 15, 416, 417, 418, 2, 419, 264, 265, 266, 303, 304, 305, 306, 64, 420, 421, 422, 14, 423, 94, 424, 425, 97, 426, 427, 428, 429, 430, 29, 386, 328, 329, 330, 30, 93, 199, 200, 201, 202, 92, 387, 332, 333, 334, 431, 432, 433, 434, 27, 311, 288, 289, 290, 271, 204, 205, 206, 28, 31, 435, 436, 437, 438, 439, 440, 441, 442, 443, 444, 445, 446, 447, 448, 449, 450, 721, 722, 723, 724, 725, 726, 727, 728, 755, 756, 757, 758, 759, 760, 761, 762] (by decide +kernel) (by decide +kernel)
set_option maxRecDepth 20000 in
theorem gL_law_X2_good : GoodIn wsL_law (wsV RL 62 RX2 yX2_good wsX2_good) := goodIn_app (goodIn_of _ (by decide +kernel)) ggL_law_X2_good
