set_option maxRecDepth 20000 in
theorem ggL_law_X2_init : GoodIn wsL_law wsX2_init := goodIn_r _ [8, 9, 10, 11, 12, 13, 14, 15, 16, 17, 18, 19, 20, 21, 22, 23, 24, 25, 26, 27, 28, 29, 30, 31, 32, 33, 34, 35, 36, 755, 756, 757, 758, 759, 760, 761, 762, 721, 722, 723, 724, 725, 726, 727, 728, 763, 764, 765] (by decide +kernel) (by decide +kernel)
set_option maxRecDepth 20000 in
theorem gL_law_X2_init : GoodIn wsL_law (wsX2_init) := ggL_law_X2_init
set_option maxRecDepth 20000 in
theorem ggL_law_X3_init : GoodIn wsL_law wsX3_init := goodIn_r _ [39, 40, 10, 11, 21, 41, 42, 43, 44, 45, 46, 47, 48, 49, 50, 51, 52, 53, 54, 55, 56, 57, 729, 730, 731, 732, 733, 734, 735, 736, 737, 738, 739, 740, 741, 742, 743, 744, 745, 746, 747, 748, 749, 750, 751, 752, 753, 754] (by decide +kernel) (by decide +kernel)
set_option maxRecDepth 20000 in
theorem gL_law_X3_init : GoodIn wsL_law (wsX3_init) := ggL_law_X3_init
set_option maxRecDepth 20000 in
theorem ggL_law_X2_table : GoodIn wsL_law wsX2_table := goodIn_r _ [61, 62, 18, 16, 15, 63, 64, 65, 66, 2, 67, 68, 69, 70, 71, 72, 73, 20, 74, 36, 75, 76, 77, 78, 79, 80, 81, 82, 83, 84, 85, 86, 87, 88, 89, 90, 14, 91, 92, 93, 94, 27, 95, 96, 97, 98, 99, 100, 101, 102, 35, 103, 104, 105, 106, 107, 108, 109, 110, 111, 112, 113, 114, 115, 116, 117, 118, 119, 120, 28, 29, 30, 31, 121, 122, 123, 124, 125, 126, 127, 128, 721, 722, 723, 724, 725, 726, 727, 728, 755, 756, 757, 758, 759, 760, 761, 762, 763, 764, 765] (by decide +kernel) (by decide +kernel)
set_option maxRecDepth 20000 in
theorem gL_law_X2_table : GoodIn wsL_law (wsV RL 13 RX2 yX2_table wsX2_table) := goodIn_app (goodIn_of _ (by decide +kernel)) ggL_law_X2_table
set_option maxRecDepth 20000 in
theorem ggL_law_X3_table : GoodIn wsL_law wsX3_table := goodIn_r _ [132, 133, 134, 135, 136, 137, 138, 41, 46, 42, 47, 43, 48, 44, 49, 45, 50, 139, 140, 141, 142, 5, 143, 144, 145, 146, 147, 148, 149, 150, 151, 152, 153, 154, 155, 156, 54, 55, 157, 158, 159, 160, 161, 162, 163, 164, 165, 166, 167, 168, 169, 170, 171, 56, 172, 173, 174, 175, 176, 177, 178, 179, 180, 181, 182, 183, 729, 730, 731, 732, 733, 734, 735, 736, 737, 738, 739, 740, 741, 742, 743, 744, 745, 746, 747, 748, 749, 750, 751, 752, 753, 754] (by decide +kernel) (by decide +kernel)
set_option maxRecDepth 20000 in
theorem gL_law_X3_table : GoodIn wsL_law (wsV RL 17 RX3 yX3_table wsX3_table) := goodIn_app (goodIn_of _ (by decide +kernel)) ggL_law_X3_table
set_option maxRecDepth 20000 in
theorem ggL_law_X2_ofThing : GoodIn wsL_law wsX2_ofThing := goodIn_r _ [187, 15, 188, 189, 190, 191, 192, 193, 2, 194, 64, 195, 196, 197, 14, 198, 30, 199, 200, 201, 202, 92, 203, 204, 205, 206, 28, 31, 721, 722, 723, 724, 725, 726, 727, 728, 755, 756, 757, 758, 759, 760, 761, 762] (by decide +kernel) (by decide +kernel)
set_option maxRecDepth 20000 in
theorem gL_law_X2_ofThing : GoodIn wsL_law (wsV RL 18 RX2 yX2_ofThing wsX2_ofThing) := goodIn_app (goodIn_of _ (by decide +kernel)) ggL_law_X2_ofThing
