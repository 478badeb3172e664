set_option maxRecDepth 20000 in
theorem ggL_law_X6_init : GoodIn wsL_law wsX6_init := goodIn_r _ [9, 10, 11, 12, 13, 14, 15, 16, 17, 18, 19, 20, 21, 22, 23, 24, 25, 26, 27, 28, 29, 30, 31, 32, 33, 34, 35, 36, 37, 38, 39, 40, 41, 42, 43, 44, 45, 46, 47, 48, 49, 50, 51, 52, 53, 54, 55, 56, 57, 58, 59, 60, 61, 62, 63, 64, 65, 66, 67, 68, 69, 70, 71, 72, 73, 74, 75, 76, 77, 78, 79, 80, 81, 82, 83, 84, 85, 86, 87, 88, 89, 90, 91, 92, 93, 94, 849, 850, 851, 852, 853, 854, 855, 856, 857, 858, 859, 831, 832, 833, 834, 835, 836, 837, 860, 861, 862, 863, 864, 865, 866, 867, 868, 869, 870, 871, 872, 873, 874, 875, 876] (by decide +kernel) (by decide +kernel)
set_option maxRecDepth 20000 in
theorem gL_law_X6_init : GoodIn wsL_law (wsX6_init) := ggL_law_X6_init
set_option maxRecDepth 20000 in
theorem ggL_law_X7_init : GoodIn wsL_law wsX7_init := goodIn_r _ [97, 98, 11, 12, 99, 100, 101, 102, 103, 22, 104, 32, 105, 106, 107, 108, 109, 110, 111, 5, 112, 113, 114, 115, 116, 117, 118, 119, 120, 121, 122, 838, 839, 840, 841, 842, 843, 844, 845, 846, 847, 848] (by decide +kernel) (by decide +kernel)
set_option maxRecDepth 20000 in
theorem gL_law_X7_init : GoodIn wsL_law (wsX7_init) := ggL_law_X7_init
set_option maxRecDepth 20000 in
theorem ggL_law_X6_item : GoodIn wsL_law wsX6_item := goodIn_r _ [126, 20, 16, 127, 128, 129, 19, 130, 77, 78, 131, 132, 133, 15, 134, 40, 44, 45, 135, 136, 137, 138, 47, 48, 49, 50, 51, 52, 53, 139, 140, 141, 39, 142, 58, 143, 60, 61, 62, 144, 145, 146, 43, 147, 70, 148, 71, 149, 150, 151, 152, 153, 154, 155, 2, 156, 157, 158, 159, 160, 161, 162, 163, 164, 165, 166, 167, 168, 169, 170, 171, 172, 173, 174, 175, 176, 177, 178, 179, 180, 181, 182, 183, 184, 185, 186, 187, 188, 79, 189, 190, 191, 831, 832, 833, 834, 835, 836, 837, 860, 861, 862, 849, 850, 851, 852, 853, 854, 855, 856, 857, 858, 859, 871, 872, 873, 874, 875, 876] (by decide +kernel) (by decide +kernel)
set_option maxRecDepth 20000 in
theorem gL_law_X6_item : GoodIn wsL_law (wsV RL 13 RX6 yX6_item wsX6_item) := goodIn_app (goodIn_of _ (by decide +kernel)) ggL_law_X6_item
set_option maxRecDepth 20000 in
theorem ggL_law_X7_item : GoodIn wsL_law wsX7_item := goodIn_r _ [195, 196, 197, 198, 5, 199, 100, 200, 201, 202, 203, 204, 205, 206, 207, 208, 102, 209, 210, 211, 212, 213, 214, 215, 109, 110, 111, 112, 113, 114, 115, 116, 117, 118, 119, 108, 120, 121, 122, 838, 839, 840, 841, 842, 843, 844, 845, 846, 847, 848] (by decide +kernel) (by decide +kernel)
set_option maxRecDepth 20000 in
theorem gL_law_X7_item : GoodIn wsL_law (wsV RL 17 RX7 yX7_item wsX7_item) := goodIn_app (goodIn_of _ (by decide +kernel)) ggL_law_X7_item
set_option maxRecDepth 20000 in
theorem ggL_law_X6_drop : GoodIn wsL_law wsX6_drop := goodIn_r _ [219, 20, 16, 127, 128, 129, 19, 130, 77, 78, 131, 132, 133, 15, 134, 40, 44, 45, 135, 136, 137, 138, 47, 48, 49, 50, 51, 52, 53, 139, 140, 141, 39, 142, 58, 143, 60, 61, 62, 144, 145, 146, 43, 147, 70, 148, 71, 220, 221, 222, 223, 153, 154, 224, 225, 226, 227, 155, 2, 156, 228, 229, 230, 231, 232, 169, 170, 171, 172, 173, 174, 175, 176, 177, 178, 179, 180, 181, 182, 183, 184, 185, 186, 187, 188, 79, 189, 190, 191, 831, 832, 833, 834, 835, 836, 837, 860, 861, 862, 849, 850, 851, 852, 853, 854, 855, 856, 857, 858, 859, 871, 872, 873, 874, 875, 876] (by decide +kernel) (by decide +kernel)
set_option maxRecDepth 20000 in
theorem gL_law_X6_drop : GoodIn wsL_law (wsV RL 18 RX6 yX6_drop wsX6_drop) := goodIn_app (goodIn_of _ (by decide +kernel)) ggL_law_X6_drop
set_option maxRecDepth 20000 in
theorem ggL_law_X7_drop : GoodIn wsL_law wsX7_drop := goodIn_r _ [236, 237, 238, 239, 5, 240, 100, 201, 202, 203, 204, 205, 206, 207, 208, 102, 209, 210, 211, 241, 242, 243, 244, 109, 110, 111, 112, 113, 114, 115, 116, 117, 118, 119, 108, 120, 121, 122, 838, 839, 840, 841, 842, 843, 844, 845, 846, 847, 848] (by decide +kernel) (by decide +kernel)
set_option maxRecDepth 20000 in
theorem gL_law_X7_drop : GoodIn wsL_law (wsV RL 22 RX7 yX7_drop wsX7_drop) := goodIn_app (goodIn_of _ (by decide +kernel)) ggL_law_X7_drop
set_option maxRecDepth 20000 in
theorem ggL_law_X6_limit : GoodIn wsL_law wsX6_limit := goodIn_r _ [248, 20, 16, 127, 128, 129, 19, 130, 77, 78, 131, 132, 133, 15, 134, 40, 44, 45, 135, 136, 137, 138, 47, 48, 49, 50, 51, 52, 53, 139, 140, 141, 39, 142, 58, 143, 60, 61, 62, 144, 145, 146, 43, 147, 70, 148, 71, 249, 250, 251, 252, 253, 254, 2, 255, 256, 155, 156, 169, 170, 171, 172, 173, 174, 175, 176, 177, 178, 179, 180, 181, 182, 183, 184, 185, 186, 187, 188, 79, 189, 190, 191, 831, 832, 833, 834, 835, 836, 837, 860, 861, 862, 849, 850, 851, 852, 853, 854, 855, 856, 857, 858, 859, 871, 872, 873, 874, 875, 876] (by decide +kernel) (by decide +kernel)
set_option maxRecDepth 20000 in
theorem gL_law_X6_limit : GoodIn wsL_law (wsV RL 23 RX6 yX6_limit wsX6_limit) := goodIn_app (goodIn_of _ (by decide +kernel)) ggL_law_X6_limit
set_option maxRecDepth 20000 in
theorem ggL_law_X7_limit : GoodIn wsL_law wsX7_limit := goodIn_r _ [260, 261, 262, 5, 263, 264, 265, 266, 201, 202, 203, 204, 205, 206, 207, 208, 102, 100, 209, 210, 211, 267, 268, 269, 270, 271, 272, 273, 274, 109, 110, 111, 112, 113, 114, 115, 116, 117, 118, 119, 108, 120, 121, 122, 838, 839, 840, 841, 842, 843, 844, 845, 846, 847, 848] (by decide +kernel) (by decide +kernel)
set_option maxRecDepth 20000 in
theorem gL_law_X7_limit : GoodIn wsL_law (wsV RL 27 RX7 yX7_limit wsX7_limit) := goodIn_app (goodIn_of _ (by decide +kernel)) ggL_law_X7_limit
set_option maxRecDepth 20000 in
theorem ggL_law_X6_rule : GoodIn wsL_law wsX6_rule := goodIn_r _ [278, 20, 16, 127, 128, 129, 19, 130, 77, 78, 131, 132, 133, 15, 134, 40, 44, 45, 135, 136, 137, 138, 47, 48, 49, 50, 51, 52, 53, 139, 140, 141, 39, 142, 58, 143, 60, 61, 62, 144, 145, 146, 43, 147, 70, 148, 71, 279, 280, 281, 282, 155, 2, 156, 185, 186, 187, 188, 79, 189, 190, 179, 191, 831, 832, 833, 834, 835, 836, 837, 860, 861, 862, 849, 850, 851, 852, 853, 854, 855, 856, 857, 858, 859, 871, 872, 873, 874, 875, 876] (by decide +kernel) (by decide +kernel)
set_option maxRecDepth 20000 in
theorem gL_law_X6_rule : GoodIn wsL_law (wsV RL 28 RX6 yX6_rule wsX6_rule) := goodIn_app (goodIn_of _ (by decide +kernel)) ggL_law_X6_rule
set_option maxRecDepth 20000 in
theorem ggL_law_X7_rule : GoodIn wsL_law wsX7_rule := goodIn_r _ [286, 100, 201, 202, 5, 203, 204, 205, 206, 207, 208, 102, 209, 210, 211, 271, 272, 273, 274, 838, 839, 840, 841, 842, 843, 844, 845, 846, 847, 848] (by decide +kernel) (by decide +kernel)
set_option maxRecDepth 20000 in
theorem gL_law_X7_rule : GoodIn wsL_law (wsV RL 31 RX7 yX7_rule wsX7_rule) := goodIn_app (goodIn_of _ (by decide +kernel)) ggL_law_X7_rule
