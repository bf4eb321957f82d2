set_option maxRecDepth 20000 in
theorem lw_in_r1 : ∀ w ∈ wsL_law_r1, w ∈ lw_tbl := lw_at _ [56, 57, 48, 513, 514, 51, 58, 59, 60, 61, 62, 63, 64, 65, 49, 123, 124, 104, 125, 106, 50, 103, 126, 127] (by decide +kernel)
set_option maxRecDepth 20000 in
theorem lw_in_r2 : ∀ w ∈ wsL_law_r2, w ∈ lw_tbl := lw_at _ [67, 68, 69, 70, 72, 74, 76, 78, 108, 109, 110, 111, 113, 515, 516, 517, 518, 521, 523, 524, 525, 526, 531, 532] (by decide +kernel)
set_option maxRecDepth 20000 in
theorem lw_in_r3 : ∀ w ∈ wsL_law_r3, w ∈ lw_tbl := lw_at _ [533, 534, 535, 536, 538, 539, 540, 541, 542, 543, 148, 149, 150, 151, 130, 128, 83, 152, 153, 154, 155, 156, 157, 158] (by decide +kernel)
set_option maxRecDepth 20000 in
theorem lw_in_r4 : ∀ w ∈ wsL_law_r4, w ∈ lw_tbl := lw_at _ [159, 160, 161, 162, 163, 164, 165, 166, 167, 168, 169, 115, 170, 172, 0, 173, 174, 175, 176, 177, 84, 80, 82, 185] (by decide +kernel)
set_option maxRecDepth 20000 in
theorem lw_in_r5 : ∀ w ∈ wsL_law_r5, w ∈ lw_tbl := lw_at _ [186, 52, 187, 178, 179, 180, 181, 182, 183, 184, 188, 190, 1, 191, 192, 193, 194, 195, 197, 2, 198, 199, 201, 3] (by decide +kernel)
set_option maxRecDepth 20000 in
theorem lw_in_r6 : ∀ w ∈ wsL_law_r6, w ∈ lw_tbl := lw_at _ [202, 203, 204, 205, 206, 207, 209, 208, 53, 598, 599, 600, 601, 613, 528, 529, 520, 530, 522, 527, 537, 602, 603, 604] (by decide +kernel)
set_option maxRecDepth 20000 in
theorem lw_in_r7 : ∀ w ∈ wsL_law_r7, w ∈ lw_tbl := lw_at _ [605, 606, 607, 608, 609, 611, 19, 612, 519, 614, 616, 20, 617, 618, 620, 21, 621, 622, 623, 624, 625, 627, 22, 628] (by decide +kernel)
set_option maxRecDepth 20000 in
theorem lw_in_r8 : ∀ w ∈ wsL_law_r8, w ∈ lw_tbl := lw_at _ [629, 631, 23, 632, 633, 635, 24, 636, 637, 639, 25, 640, 641, 643, 26, 644, 210, 211, 212, 213, 73, 75, 79, 214] (by decide +kernel)
