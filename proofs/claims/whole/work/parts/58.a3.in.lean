set_option maxRecDepth 20000 in
theorem lw_in_r17 : ∀ w ∈ wsL_law_r17, w ∈ lw_tbl := lw_at _ [325, 326, 327, 328, 329, 331, 8, 332, 723, 724, 725, 726, 727, 728, 729, 730, 731, 733, 35, 734, 735, 737, 36, 738] (by decide +kernel)
set_option maxRecDepth 20000 in
theorem lw_in_r18 : ∀ w ∈ wsL_law_r18, w ∈ lw_tbl := lw_at _ [739, 741, 37, 742, 333, 334, 335, 336, 337, 339, 9, 340, 341, 342, 343, 344, 356, 357, 358, 345, 347, 10, 348, 349] (by decide +kernel)
set_option maxRecDepth 20000 in
theorem lw_in_r19 : ∀ w ∈ wsL_law_r19, w ∈ lw_tbl := lw_at _ [350, 351, 352, 353, 354, 355, 359, 361, 11, 362, 363, 364, 365, 366, 367, 368, 369, 370, 371, 743, 744, 745, 746, 747] (by decide +kernel)
set_option maxRecDepth 20000 in
theorem lw_in_r20 : ∀ w ∈ wsL_law_r20, w ∈ lw_tbl := lw_at _ [749, 38, 750, 751, 753, 39, 754, 755, 757, 40, 758, 759, 761, 41, 762, 372, 373, 374, 375, 376, 377, 378, 379, 380] (by decide +kernel)
set_option maxRecDepth 20000 in
theorem lw_in_r21 : ∀ w ∈ wsL_law_r21, w ∈ lw_tbl := lw_at _ [381, 763, 764, 765, 766, 767, 769, 42, 770, 382, 383, 384, 385, 386, 387, 388, 389, 391, 392, 393, 390, 771, 772, 773] (by decide +kernel)
set_option maxRecDepth 20000 in
theorem lw_in_r22 : ∀ w ∈ wsL_law_r22, w ∈ lw_tbl := lw_at _ [774, 394, 395, 396, 397, 775, 776, 777, 778, 398, 399, 400, 401, 779, 780, 781, 782, 402, 403, 404, 405, 406, 408, 12] (by decide +kernel)
set_option maxRecDepth 20000 in
theorem lw_in_r23 : ∀ w ∈ wsL_law_r23, w ∈ lw_tbl := lw_at _ [409, 410, 412, 13, 413, 783, 784, 785, 786, 787, 789, 43, 790, 414, 415, 416, 417, 791, 792, 793, 794, 418, 419, 420] (by decide +kernel)
set_option maxRecDepth 20000 in
theorem lw_in_r24 : ∀ w ∈ wsL_law_r24, w ∈ lw_tbl := lw_at _ [421, 77, 795, 796, 797, 798, 422, 423, 424, 425, 426, 427, 428, 429, 430, 799, 800, 801, 802, 803, 804, 805, 806, 807] (by decide +kernel)
