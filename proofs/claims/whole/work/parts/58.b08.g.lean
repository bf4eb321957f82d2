set_option maxRecDepth 20000 in
theorem ggL_law_X2_odds : GoodIn wsL_law wsX2_odds := goodIn_r _ [561, 562, 15, 64, 264, 265, 2, 266, 303, 304, 305, 306, 563, 564, 565, 14, 566, 92, 94, 431, 432, 433, 434, 93, 27, 311, 288, 289, 290, 30, 29, 271, 204, 205, 206, 28, 31, 199, 200, 201, 202, 721, 722, 723, 724, 725, 726, 727, 728, 755, 756, 757, 758, 759, 760, 761, 762] (by decide +kernel) (by decide +kernel)
set_option maxRecDepth 20000 in
theorem gL_law_X2_odds : GoodIn wsL_law (wsV RL 94 RX2 yX2_odds wsX2_odds) := goodIn_app (goodIn_of _ (by decide +kernel)) ggL_law_X2_odds
set_option maxRecDepth 20000 in
theorem ggL_law_X3_odds : GoodIn wsL_law wsX3_odds := goodIn_r _ [570, 138, 139, 276, 277, 5, 278, 145, 146, 147, 571, 572, 573, 574, 316, 317, 318, 319, 136, 41, 295, 296, 297, 298, 279, 280, 281, 282, 43, 44, 218, 219, 220, 221, 45, 42, 215, 216, 217, 575, 576, 577, 729, 730, 731, 732, 733, 734, 735, 736, 737, 738, 739, 740, 741, 742, 743, 744, 745, 746, 747, 748, 749, 750, 751, 752, 753, 754] (by decide +kernel) (by decide +kernel)
set_option maxRecDepth 20000 in
theorem gL_law_X3_odds : GoodIn wsL_law (wsV RL 98 RX3 yX3_odds wsX3_odds) := goodIn_app (goodIn_of _ (by decide +kernel)) ggL_law_X3_odds
set_option maxRecDepth 20000 in
theorem ggL_law_X2_sheet : GoodIn wsL_law wsX2_sheet := goodIn_r _ [581, 62, 18, 65, 66, 2, 67, 68, 69, 70, 84, 85, 86, 87, 582, 583, 584, 20, 585, 36, 83, 35, 586, 587, 588, 589, 721, 722, 723, 724, 725, 726, 727, 728, 763, 764, 765] (by decide +kernel) (by decide +kernel)
set_option maxRecDepth 20000 in
theorem gL_law_X2_sheet : GoodIn wsL_law (wsV RL 99 RX2 yX2_sheet wsX2_sheet) := goodIn_app (goodIn_of _ (by decide +kernel)) ggL_law_X2_sheet
set_option maxRecDepth 20000 in
theorem ggL_law_X3_sheet : GoodIn wsL_law wsX3_sheet := goodIn_r _ [593, 133, 54, 55, 56, 141, 142, 5, 143, 144, 145, 146, 147, 148, 149, 150, 151, 152, 157, 158, 159, 160, 729, 730, 731, 732, 733, 734, 735, 736, 737, 738, 739, 740, 741, 742, 743, 744, 745, 746, 747, 748, 749, 750, 751, 752, 753, 754] (by decide +kernel) (by decide +kernel)
set_option maxRecDepth 20000 in
theorem gL_law_X3_sheet : GoodIn wsL_law (wsV RL 103 RX3 yX3_sheet wsX3_sheet) := goodIn_app (goodIn_of _ (by decide +kernel)) ggL_law_X3_sheet
set_option maxRecDepth 20000 in
theorem ggL_law_X2_lose : GoodIn wsL_law wsX2_lose := goodIn_r _ [597, 18, 65, 66, 2, 67, 598, 76, 77, 20, 78, 36, 599, 600, 601, 602, 83, 721, 722, 723, 724, 725, 726, 727, 728, 763, 764, 765] (by decide +kernel) (by decide +kernel)
set_option maxRecDepth 20000 in
theorem gL_law_X2_lose : GoodIn wsL_law (wsV RL 104 RX2 yX2_lose wsX2_lose) := goodIn_app (goodIn_of _ (by decide +kernel)) ggL_law_X2_lose
