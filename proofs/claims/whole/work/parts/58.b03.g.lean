set_option maxRecDepth 20000 in
theorem ggL_law_X3_holds : GoodIn wsL_law wsX3_holds := goodIn_r _ [294, 236, 237, 238, 5, 239, 136, 145, 146, 147, 295, 296, 297, 298, 279, 280, 281, 282, 138, 43, 44, 218, 219, 220, 221, 45, 42, 139, 215, 216, 217, 729, 730, 731, 732, 733, 734, 735, 736, 737, 738, 739, 740, 741, 742, 743, 744, 745, 746, 747, 748, 749, 750, 751, 752, 753, 754] (by decide +kernel) (by decide +kernel)
set_option maxRecDepth 20000 in
theorem gL_law_X3_holds : GoodIn wsL_law (wsV RL 43 RX3 yX3_holds wsX3_holds) := goodIn_app (goodIn_of _ (by decide +kernel)) ggL_law_X3_holds
set_option maxRecDepth 20000 in
theorem ggL_law_X2_land : GoodIn wsL_law wsX2_land := goodIn_r _ [302, 15, 264, 265, 2, 266, 303, 304, 305, 306, 64, 307, 308, 309, 14, 310, 93, 27, 311, 288, 289, 290, 94, 30, 29, 271, 204, 205, 206, 28, 31, 199, 200, 201, 202, 92, 721, 722, 723, 724, 725, 726, 727, 728, 755, 756, 757, 758, 759, 760, 761, 762] (by decide +kernel) (by decide +kernel)
set_option maxRecDepth 20000 in
theorem gL_law_X2_land : GoodIn wsL_law (wsV RL 44 RX2 yX2_land wsX2_land) := goodIn_app (goodIn_of _ (by decide +kernel)) ggL_law_X2_land
set_option maxRecDepth 20000 in
theorem ggL_law_X3_land : GoodIn wsL_law wsX3_land := goodIn_r _ [315, 138, 276, 277, 5, 278, 145, 146, 147, 316, 317, 318, 319, 136, 41, 295, 296, 297, 298, 279, 280, 281, 282, 43, 44, 218, 219, 220, 221, 45, 42, 139, 215, 216, 217, 729, 730, 731, 732, 733, 734, 735, 736, 737, 738, 739, 740, 741, 742, 743, 744, 745, 746, 747, 748, 749, 750, 751, 752, 753, 754] (by decide +kernel) (by decide +kernel)
set_option maxRecDepth 20000 in
theorem gL_law_X3_land : GoodIn wsL_law (wsV RL 47 RX3 yX3_land wsX3_land) := goodIn_app (goodIn_of _ (by decide +kernel)) ggL_law_X3_land
set_option maxRecDepth 20000 in
theorem ggL_law_X2_act : GoodIn wsL_law wsX2_act := goodIn_r _ [323, 15, 191, 192, 193, 2, 194, 64, 324, 325, 326, 327, 328, 329, 14, 330, 30, 93, 199, 200, 201, 202, 92, 331, 332, 333, 334, 195, 196, 197, 198, 721, 722, 723, 724, 725, 726, 727, 728, 755, 756, 757, 758, 759, 760, 761, 762] (by decide +kernel) (by decide +kernel)
set_option maxRecDepth 20000 in
theorem gL_law_X2_act : GoodIn wsL_law (wsV RL 48 RX2 yX2_act wsX2_act) := goodIn_app (goodIn_of _ (by decide +kernel)) ggL_law_X2_act
set_option maxRecDepth 20000 in
theorem ggL_law_X3_act : GoodIn wsL_law wsX3_act := goodIn_r _ [338, 133, 44, 211, 212, 213, 5, 214, 138, 145, 146, 147, 339, 340, 341, 342, 139, 136, 215, 216, 217, 343, 344, 345, 346, 729, 730, 731, 732, 733, 734, 735, 736, 737, 738, 739, 740, 741, 742, 743, 744, 745, 746, 747, 748, 749, 750, 751, 752, 753, 754] (by decide +kernel) (by decide +kernel)
set_option maxRecDepth 20000 in
theorem gL_law_X3_act : GoodIn wsL_law (wsV RL 51 RX3 yX3_act wsX3_act) := goodIn_app (goodIn_of _ (by decide +kernel)) ggL_law_X3_act
