set_option maxRecDepth 20000 in
theorem ggL_law_X2_reading : GoodIn wsL_law wsX2_reading := goodIn_r _ [508, 63, 22, 23, 227, 228, 229, 2, 230, 15, 231, 264, 265, 266, 721, 722, 723, 724, 725, 726, 727, 728, 755, 756, 757, 758, 759, 760, 761, 762] (by decide +kernel) (by decide +kernel)
set_option maxRecDepth 20000 in
theorem gL_law_X2_reading : GoodIn wsL_law (wsV RL 74 RX2 yX2_reading wsX2_reading) := goodIn_app (goodIn_of _ (by decide +kernel)) ggL_law_X2_reading
set_option maxRecDepth 20000 in
theorem ggL_law_X3_reading : GoodIn wsL_law wsX3_reading := goodIn_r _ [512, 140, 52, 53, 236, 237, 238, 5, 239, 136, 145, 146, 147, 276, 277, 278, 729, 730, 731, 732, 733, 734, 735, 736, 737, 738, 739, 740, 741, 742, 743, 744, 745, 746, 747, 748, 749, 750, 751, 752, 753, 754] (by decide +kernel) (by decide +kernel)
set_option maxRecDepth 20000 in
theorem gL_law_X3_reading : GoodIn wsL_law (wsV RL 77 RX3 yX3_reading wsX3_reading) := goodIn_app (goodIn_of _ (by decide +kernel)) ggL_law_X3_reading
set_option maxRecDepth 20000 in
theorem ggL_law_X2_back : GoodIn wsL_law wsX2_back := goodIn_r _ [516, 63, 721, 722, 723, 724, 725, 726, 727, 728] (by decide +kernel) (by decide +kernel)
set_option maxRecDepth 20000 in
theorem gL_law_X2_back : GoodIn wsL_law (wsV RL 78 RX2 yX2_back wsX2_back) := goodIn_app (goodIn_of _ (by decide +kernel)) ggL_law_X2_back
set_option maxRecDepth 20000 in
theorem ggL_law_X3_back : GoodIn wsL_law wsX3_back := goodIn_r _ [520, 140, 145, 146, 5, 147, 729, 730, 731, 732, 733, 734, 735, 736, 737, 738, 739, 740, 741, 742, 743, 744, 745, 746, 747, 748, 749, 750, 751, 752, 753, 754] (by decide +kernel) (by decide +kernel)
set_option maxRecDepth 20000 in
theorem gL_law_X3_back : GoodIn wsL_law (wsV RL 81 RX3 yX3_back wsX3_back) := goodIn_app (goodIn_of _ (by decide +kernel)) ggL_law_X3_back
set_option maxRecDepth 20000 in
theorem ggL_law_X2_strengths : GoodIn wsL_law wsX2_strengths := goodIn_r _ [524, 15, 190, 191, 192, 193, 2, 194, 64, 525, 526, 527, 528, 529, 530, 531, 532, 63, 22, 23, 287, 288, 289, 14, 290, 94, 30, 29, 271, 204, 205, 206, 28, 31, 199, 200, 201, 202, 92, 721, 722, 723, 724, 725, 726, 727, 728, 755, 756, 757, 758, 759, 760, 761, 762] (by decide +kernel) (by decide +kernel)
set_option maxRecDepth 20000 in
theorem gL_law_X2_strengths : GoodIn wsL_law (wsV RL 82 RX2 yX2_strengths wsX2_strengths) := goodIn_app (goodIn_of _ (by decide +kernel)) ggL_law_X2_strengths
