set_option maxRecDepth 20000 in
theorem ggL_law_X3_good : GoodIn wsL_law wsX3_good := goodIn_r _ [454, 133, 138, 276, 277, 5, 278, 145, 146, 147, 455, 456, 457, 458, 459, 460, 461, 462, 43, 339, 340, 341, 342, 139, 44, 136, 215, 216, 217, 343, 344, 345, 346, 463, 464, 465, 466, 316, 317, 318, 319, 41, 295, 296, 297, 298, 279, 280, 281, 282, 218, 219, 220, 221, 45, 42, 467, 468, 469, 470, 729, 730, 731, 732, 733, 734, 735, 736, 737, 738, 739, 740, 741, 742, 743, 744, 745, 746, 747, 748, 749, 750, 751, 752, 753, 754] (by decide +kernel) (by decide +kernel)
set_option maxRecDepth 20000 in
theorem gL_law_X3_good : GoodIn wsL_law (wsV RL 65 RX3 yX3_good wsX3_good) := goodIn_app (goodIn_of _ (by decide +kernel)) ggL_law_X3_good
set_option maxRecDepth 20000 in
theorem ggL_law_X2_safe : GoodIn wsL_law wsX2_safe := goodIn_r _ [474, 15, 416, 417, 418, 2, 419, 264, 265, 266, 303, 304, 305, 306, 64, 475, 476, 477, 14, 478, 94, 424, 425, 97, 426, 427, 428, 429, 430, 29, 386, 328, 329, 330, 30, 93, 199, 200, 201, 202, 92, 387, 332, 333, 334, 479, 421, 422, 423, 431, 432, 433, 434, 27, 311, 288, 289, 290, 271, 204, 205, 206, 28, 31, 435, 436, 437, 438, 439, 440, 441, 480, 449, 450, 442, 443, 444, 445, 446, 447, 448, 721, 722, 723, 724, 725, 726, 727, 728, 755, 756, 757, 758, 759, 760, 761, 762] (by decide +kernel) (by decide +kernel)
set_option maxRecDepth 20000 in
theorem gL_law_X2_safe : GoodIn wsL_law (wsV RL 66 RX2 yX2_safe wsX2_safe) := goodIn_app (goodIn_of _ (by decide +kernel)) ggL_law_X2_safe
set_option maxRecDepth 20000 in
theorem ggL_law_X3_safe : GoodIn wsL_law wsX3_safe := goodIn_r _ [484, 133, 138, 276, 277, 5, 278, 145, 146, 147, 459, 460, 461, 462, 43, 339, 340, 341, 342, 139, 44, 136, 215, 216, 217, 343, 344, 345, 346, 485, 486, 487, 488, 455, 456, 457, 458, 463, 464, 465, 466, 316, 317, 318, 319, 41, 295, 296, 297, 298, 279, 280, 281, 282, 218, 219, 220, 221, 45, 42, 467, 468, 469, 470, 729, 730, 731, 732, 733, 734, 735, 736, 737, 738, 739, 740, 741, 742, 743, 744, 745, 746, 747, 748, 749, 750, 751, 752, 753, 754] (by decide +kernel) (by decide +kernel)
set_option maxRecDepth 20000 in
theorem gL_law_X3_safe : GoodIn wsL_law (wsV RL 69 RX3 yX3_safe wsX3_safe) := goodIn_app (goodIn_of _ (by decide +kernel)) ggL_law_X3_safe
set_option maxRecDepth 20000 in
theorem ggL_law_X2_need : GoodIn wsL_law wsX2_need := goodIn_r _ [492, 15, 264, 265, 2, 266, 227, 228, 229, 230, 231, 493, 494, 495, 14, 496, 94, 29, 30, 497, 498, 97, 499, 500, 268, 269, 270, 271, 204, 205, 206, 28, 31, 199, 200, 201, 202, 92, 721, 722, 723, 724, 725, 726, 727, 728, 755, 756, 757, 758, 759, 760, 761, 762] (by decide +kernel) (by decide +kernel)
set_option maxRecDepth 20000 in
theorem gL_law_X2_need : GoodIn wsL_law (wsV RL 70 RX2 yX2_need wsX2_need) := goodIn_app (goodIn_of _ (by decide +kernel)) ggL_law_X2_need
set_option maxRecDepth 20000 in
theorem ggL_law_X3_need : GoodIn wsL_law wsX3_need := goodIn_r _ [504, 138, 43, 44, 139, 276, 277, 5, 278, 145, 146, 147, 236, 237, 238, 239, 136, 279, 280, 281, 282, 218, 219, 220, 221, 45, 42, 215, 216, 217, 729, 730, 731, 732, 733, 734, 735, 736, 737, 738, 739, 740, 741, 742, 743, 744, 745, 746, 747, 748, 749, 750, 751, 752, 753, 754] (by decide +kernel) (by decide +kernel)
set_option maxRecDepth 20000 in
theorem gL_law_X3_need : GoodIn wsL_law (wsV RL 73 RX3 yX3_need wsX3_need) := goodIn_app (goodIn_of _ (by decide +kernel)) ggL_law_X3_need
