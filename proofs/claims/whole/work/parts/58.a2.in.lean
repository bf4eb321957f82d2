set_option maxRecDepth 20000 in
theorem lw_in_r9 : ∀ w ∈ wsL_law_r9, w ∈ lw_tbl := lw_at _ [216, 4, 217, 218, 219, 220, 221, 222, 223, 224, 225, 226, 227, 228, 229, 645, 646, 647, 648, 649, 651, 27, 652, 653] (by decide +kernel)
set_option maxRecDepth 20000 in
theorem lw_in_r10 : ∀ w ∈ wsL_law_r10, w ∈ lw_tbl := lw_at _ [654, 655, 656, 658, 28, 659, 230, 231, 232, 233, 71, 234, 236, 5, 237, 81, 660, 661, 662, 663, 664, 666, 29, 667] (by decide +kernel)
set_option maxRecDepth 20000 in
theorem lw_in_r11 : ∀ w ∈ wsL_law_r11, w ∈ lw_tbl := lw_at _ [238, 239, 240, 241, 242, 243, 244, 668, 669, 670, 671, 672, 245, 246, 247, 248, 673, 674, 675, 676, 249, 250, 251, 252] (by decide +kernel)
set_option maxRecDepth 20000 in
theorem lw_in_r12 : ∀ w ∈ wsL_law_r12, w ∈ lw_tbl := lw_at _ [253, 254, 255, 256, 257, 258, 259, 260, 677, 678, 679, 680, 681, 682, 683, 684, 686, 30, 687, 261, 262, 263, 264, 265] (by decide +kernel)
set_option maxRecDepth 20000 in
theorem lw_in_r13 : ∀ w ∈ wsL_law_r13, w ∈ lw_tbl := lw_at _ [266, 267, 268, 688, 689, 690, 691, 692, 694, 31, 695, 269, 270, 271, 272, 273, 275, 6, 276, 277, 278, 279, 280, 281] (by decide +kernel)
set_option maxRecDepth 20000 in
theorem lw_in_r14 : ∀ w ∈ wsL_law_r14, w ∈ lw_tbl := lw_at _ [696, 697, 698, 699, 700, 702, 32, 703, 282, 283, 284, 285, 286, 287, 288, 289, 290, 291, 292, 293, 294, 295, 296, 704] (by decide +kernel)
set_option maxRecDepth 20000 in
theorem lw_in_r15 : ∀ w ∈ wsL_law_r15, w ∈ lw_tbl := lw_at _ [705, 706, 707, 708, 710, 33, 711, 712, 714, 34, 715, 297, 298, 299, 300, 85, 301, 302, 303, 304, 305, 306, 54, 307] (by decide +kernel)
set_option maxRecDepth 20000 in
theorem lw_in_r16 : ∀ w ∈ wsL_law_r16, w ∈ lw_tbl := lw_at _ [308, 309, 310, 716, 717, 718, 719, 720, 721, 722, 311, 312, 313, 314, 315, 316, 317, 318, 320, 7, 321, 322, 323, 324] (by decide +kernel)
