set_option maxRecDepth 20000 in
theorem ggL_law_X3_strengths : GoodIn wsL_law wsX3_strengths := goodIn_r _ [536, 45, 211, 212, 213, 5, 214, 138, 145, 146, 147, 537, 538, 539, 540, 140, 52, 53, 295, 296, 297, 298, 279, 280, 281, 282, 43, 44, 218, 219, 220, 221, 42, 139, 215, 216, 217, 729, 730, 731, 732, 733, 734, 735, 736, 737, 738, 739, 740, 741, 742, 743, 744, 745, 746, 747, 748, 749, 750, 751, 752, 753, 754] (by decide +kernel) (by decide +kernel)
set_option maxRecDepth 20000 in
theorem gL_law_X3_strengths : GoodIn wsL_law (wsV RL 85 RX3 yX3_strengths wsX3_strengths) := goodIn_app (goodIn_of _ (by decide +kernel)) ggL_law_X3_strengths
set_option maxRecDepth 20000 in
theorem ggL_law_X2_kinds : GoodIn wsL_law wsX2_kinds := goodIn_r _ [544, 15, 188, 191, 192, 193, 2, 194, 64, 525, 526, 527, 528, 529, 530, 531, 532, 63, 22, 23, 287, 288, 289, 14, 290, 94, 30, 29, 271, 204, 205, 206, 28, 31, 199, 200, 201, 202, 92, 721, 722, 723, 724, 725, 726, 727, 728, 755, 756, 757, 758, 759, 760, 761, 762] (by decide +kernel) (by decide +kernel)
set_option maxRecDepth 20000 in
theorem gL_law_X2_kinds : GoodIn wsL_law (wsV RL 86 RX2 yX2_kinds wsX2_kinds) := goodIn_app (goodIn_of _ (by decide +kernel)) ggL_law_X2_kinds
set_option maxRecDepth 20000 in
theorem ggL_law_X3_kinds : GoodIn wsL_law wsX3_kinds := goodIn_r _ [548, 42, 211, 212, 213, 5, 214, 138, 145, 146, 147, 537, 538, 539, 540, 140, 52, 53, 295, 296, 297, 298, 279, 280, 281, 282, 43, 44, 218, 219, 220, 221, 45, 139, 215, 216, 217, 729, 730, 731, 732, 733, 734, 735, 736, 737, 738, 739, 740, 741, 742, 743, 744, 745, 746, 747, 748, 749, 750, 751, 752, 753, 754] (by decide +kernel) (by decide +kernel)
set_option maxRecDepth 20000 in
theorem gL_law_X3_kinds : GoodIn wsL_law (wsV RL 89 RX3 yX3_kinds wsX3_kinds) := goodIn_app (goodIn_of _ (by decide +kernel)) ggL_law_X3_kinds
set_option maxRecDepth 20000 in
theorem ggL_law_X2_spots : GoodIn wsL_law wsX2_spots := goodIn_r _ [552, 15, 553, 231, 191, 192, 193, 2, 194, 64, 525, 526, 527, 528, 529, 530, 531, 532, 63, 22, 23, 287, 288, 289, 14, 290, 94, 30, 29, 271, 204, 205, 206, 28, 31, 199, 200, 201, 202, 92, 721, 722, 723, 724, 725, 726, 727, 728, 755, 756, 757, 758, 759, 760, 761, 762] (by decide +kernel) (by decide +kernel)
set_option maxRecDepth 20000 in
theorem gL_law_X2_spots : GoodIn wsL_law (wsV RL 90 RX2 yX2_spots wsX2_spots) := goodIn_app (goodIn_of _ (by decide +kernel)) ggL_law_X2_spots
set_option maxRecDepth 20000 in
theorem ggL_law_X3_spots : GoodIn wsL_law wsX3_spots := goodIn_r _ [557, 44, 136, 211, 212, 213, 5, 214, 138, 145, 146, 147, 537, 538, 539, 540, 140, 52, 53, 295, 296, 297, 298, 279, 280, 281, 282, 43, 218, 219, 220, 221, 45, 42, 139, 215, 216, 217, 729, 730, 731, 732, 733, 734, 735, 736, 737, 738, 739, 740, 741, 742, 743, 744, 745, 746, 747, 748, 749, 750, 751, 752, 753, 754] (by decide +kernel) (by decide +kernel)
set_option maxRecDepth 20000 in
theorem gL_law_X3_spots : GoodIn wsL_law (wsV RL 93 RX3 yX3_spots wsX3_spots) := goodIn_app (goodIn_of _ (by decide +kernel)) ggL_law_X3_spots
