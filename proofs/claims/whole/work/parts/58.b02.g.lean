set_option maxRecDepth 20000 in
theorem ggL_law_X2_arm : GoodIn wsL_law wsX2_arm := goodIn_r _ [255, 15, 190, 191, 192, 193, 2, 194, 64, 244, 245, 246, 721, 722, 723, 724, 725, 726, 727, 728, 755, 756, 757, 758, 759, 760, 761, 762] (by decide +kernel) (by decide +kernel)
set_option maxRecDepth 20000 in
theorem gL_law_X2_arm : GoodIn wsL_law (wsV RL 32 RX2 yX2_arm wsX2_arm) := goodIn_app (goodIn_of _ (by decide +kernel)) ggL_law_X2_arm
set_option maxRecDepth 20000 in
theorem ggL_law_X3_arm : GoodIn wsL_law wsX3_arm := goodIn_r _ [259, 251, 45, 211, 212, 213, 5, 214, 138, 145, 146, 147, 729, 730, 731, 732, 733, 734, 735, 736, 737, 738, 739, 740, 741, 742, 743, 744, 745, 746, 747, 748, 749, 750, 751, 752, 753, 754] (by decide +kernel) (by decide +kernel)
set_option maxRecDepth 20000 in
theorem gL_law_X3_arm : GoodIn wsL_law (wsV RL 35 RX3 yX3_arm wsX3_arm) := goodIn_app (goodIn_of _ (by decide +kernel)) ggL_law_X3_arm
set_option maxRecDepth 20000 in
theorem ggL_law_X2_might : GoodIn wsL_law wsX2_might := goodIn_r _ [263, 15, 264, 265, 2, 266, 227, 228, 229, 230, 231, 267, 268, 269, 14, 270, 94, 29, 30, 271, 204, 205, 206, 28, 31, 199, 200, 201, 202, 92, 721, 722, 723, 724, 725, 726, 727, 728, 755, 756, 757, 758, 759, 760, 761, 762] (by decide +kernel) (by decide +kernel)
set_option maxRecDepth 20000 in
theorem gL_law_X2_might : GoodIn wsL_law (wsV RL 36 RX2 yX2_might wsX2_might) := goodIn_app (goodIn_of _ (by decide +kernel)) ggL_law_X2_might
set_option maxRecDepth 20000 in
theorem ggL_law_X3_might : GoodIn wsL_law wsX3_might := goodIn_r _ [275, 276, 277, 5, 278, 145, 146, 147, 236, 237, 238, 239, 136, 279, 280, 281, 282, 138, 43, 44, 218, 219, 220, 221, 45, 42, 139, 215, 216, 217, 729, 730, 731, 732, 733, 734, 735, 736, 737, 738, 739, 740, 741, 742, 743, 744, 745, 746, 747, 748, 749, 750, 751, 752, 753, 754] (by decide +kernel) (by decide +kernel)
set_option maxRecDepth 20000 in
theorem gL_law_X3_might : GoodIn wsL_law (wsV RL 39 RX3 yX3_might wsX3_might) := goodIn_app (goodIn_of _ (by decide +kernel)) ggL_law_X3_might
set_option maxRecDepth 20000 in
theorem ggL_law_X2_holds : GoodIn wsL_law wsX2_holds := goodIn_r _ [286, 15, 227, 228, 229, 2, 230, 231, 287, 288, 289, 14, 290, 94, 30, 29, 271, 204, 205, 206, 28, 31, 199, 200, 201, 202, 92, 721, 722, 723, 724, 725, 726, 727, 728, 755, 756, 757, 758, 759, 760, 761, 762] (by decide +kernel) (by decide +kernel)
set_option maxRecDepth 20000 in
theorem gL_law_X2_holds : GoodIn wsL_law (wsV RL 40 RX2 yX2_holds wsX2_holds) := goodIn_app (goodIn_of _ (by decide +kernel)) ggL_law_X2_holds
