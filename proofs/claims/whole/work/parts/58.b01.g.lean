set_option maxRecDepth 20000 in
theorem ggL_law_X3_ofThing : GoodIn wsL_law wsX3_ofThing := goodIn_r _ [210, 42, 43, 139, 44, 45, 211, 212, 213, 5, 214, 138, 145, 146, 147, 215, 216, 217, 218, 219, 220, 221, 729, 730, 731, 732, 733, 734, 735, 736, 737, 738, 739, 740, 741, 742, 743, 744, 745, 746, 747, 748, 749, 750, 751, 752, 753, 754] (by decide +kernel) (by decide +kernel)
set_option maxRecDepth 20000 in
theorem gL_law_X3_ofThing : GoodIn wsL_law (wsV RL 22 RX3 yX3_ofThing wsX3_ofThing) := goodIn_app (goodIn_of _ (by decide +kernel)) ggL_law_X3_ofThing
set_option maxRecDepth 20000 in
theorem ggL_law_X2_acres : GoodIn wsL_law wsX2_acres := goodIn_r _ [225, 15, 226, 227, 228, 229, 2, 230, 231, 721, 722, 723, 724, 725, 726, 727, 728, 755, 756, 757, 758, 759, 760, 761, 762] (by decide +kernel) (by decide +kernel)
set_option maxRecDepth 20000 in
theorem gL_law_X2_acres : GoodIn wsL_law (wsV RL 23 RX2 yX2_acres wsX2_acres) := goodIn_app (goodIn_of _ (by decide +kernel)) ggL_law_X2_acres
set_option maxRecDepth 20000 in
theorem ggL_law_X3_acres : GoodIn wsL_law wsX3_acres := goodIn_r _ [235, 41, 236, 237, 238, 5, 239, 136, 145, 146, 147, 729, 730, 731, 732, 733, 734, 735, 736, 737, 738, 739, 740, 741, 742, 743, 744, 745, 746, 747, 748, 749, 750, 751, 752, 753, 754] (by decide +kernel) (by decide +kernel)
set_option maxRecDepth 20000 in
theorem gL_law_X3_acres : GoodIn wsL_law (wsV RL 27 RX3 yX3_acres wsX3_acres) := goodIn_app (goodIn_of _ (by decide +kernel)) ggL_law_X3_acres
set_option maxRecDepth 20000 in
theorem ggL_law_X2_stain : GoodIn wsL_law wsX2_stain := goodIn_r _ [243, 15, 226, 227, 228, 229, 2, 230, 231, 244, 245, 246, 721, 722, 723, 724, 725, 726, 727, 728, 755, 756, 757, 758, 759, 760, 761, 762] (by decide +kernel) (by decide +kernel)
set_option maxRecDepth 20000 in
theorem gL_law_X2_stain : GoodIn wsL_law (wsV RL 28 RX2 yX2_stain wsX2_stain) := goodIn_app (goodIn_of _ (by decide +kernel)) ggL_law_X2_stain
set_option maxRecDepth 20000 in
theorem ggL_law_X3_stain : GoodIn wsL_law wsX3_stain := goodIn_r _ [250, 251, 41, 236, 237, 238, 5, 239, 136, 145, 146, 147, 729, 730, 731, 732, 733, 734, 735, 736, 737, 738, 739, 740, 741, 742, 743, 744, 745, 746, 747, 748, 749, 750, 751, 752, 753, 754] (by decide +kernel) (by decide +kernel)
set_option maxRecDepth 20000 in
theorem gL_law_X3_stain : GoodIn wsL_law (wsV RL 31 RX3 yX3_stain wsX3_stain) := goodIn_app (goodIn_of _ (by decide +kernel)) ggL_law_X3_stain
