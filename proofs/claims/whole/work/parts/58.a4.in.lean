set_option maxRecDepth 20000 in
theorem lw_in_r25 : ∀ w ∈ wsL_law_r25, w ∈ lw_tbl := lw_at _ [808, 809, 431, 432, 433, 434, 435, 436, 437, 438, 439, 440, 55, 441, 810, 811, 812, 813, 442, 443, 444, 445, 446, 447] (by decide +kernel)
set_option maxRecDepth 20000 in
theorem lw_in_r26 : ∀ w ∈ wsL_law_r26, w ∈ lw_tbl := lw_at _ [448, 449, 450, 814, 815, 816, 817, 451, 452, 453, 454, 114, 455, 456, 457, 458, 459, 461, 14, 462, 818, 819, 820, 821] (by decide +kernel)
set_option maxRecDepth 20000 in
theorem lw_in_r27 : ∀ w ∈ wsL_law_r27, w ∈ lw_tbl := lw_at _ [822, 824, 44, 825, 463, 464, 465, 466, 826, 827, 828, 829, 830, 832, 45, 833, 467, 468, 469, 470, 112, 472, 471, 834] (by decide +kernel)
set_option maxRecDepth 20000 in
theorem lw_in_r28 : ∀ w ∈ wsL_law_r28, w ∈ lw_tbl := lw_at _ [835, 836, 837, 473, 474, 475, 476, 477, 479, 15, 480, 481, 483, 16, 484, 129, 485, 487, 17, 488, 489, 491, 18, 492] (by decide +kernel)
set_option maxRecDepth 20000 in
theorem lw_in_r29 : ∀ w ∈ wsL_law_r29, w ∈ lw_tbl := lw_at _ [838, 839, 840, 841, 842, 844, 46, 845, 544, 493, 494, 495, 496, 846, 847, 848, 849, 497, 498, 499, 500, 850, 851, 852] (by decide +kernel)
set_option maxRecDepth 20000 in
theorem lw_in_r30 : ∀ w ∈ wsL_law_r30, w ∈ lw_tbl := lw_at _ [853, 501, 502, 503, 504, 854, 855, 856, 857, 505, 506, 507, 508, 858, 859, 860, 861, 509, 510, 511, 512, 862, 863, 864] (by decide +kernel)
set_option maxRecDepth 20000 in
theorem lw_in_r31 : ∀ w ∈ wsL_law_r31, w ∈ lw_tbl := lw_at _ [865] (by decide +kernel)
