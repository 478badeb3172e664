set_option maxRecDepth 20000 in
theorem ggL_law_X6_bundle : GoodIn wsL_law wsX6_bundle := goodIn_r _ [502, 16, 503, 504, 505, 256, 155, 2, 156, 831, 832, 833, 834, 835, 836, 837, 849, 850, 851, 852, 853, 854, 855, 856, 857, 858, 859, 875, 876] (by decide +kernel) (by decide +kernel)
set_option maxRecDepth 20000 in
theorem gL_law_X6_bundle : GoodIn wsL_law (wsV RL 53 RX6 yX6_bundle wsX6_bundle) := goodIn_app (goodIn_of _ (by decide +kernel)) ggL_law_X6_bundle
set_option maxRecDepth 20000 in
theorem ggL_law_X7_bundle : GoodIn wsL_law wsX7_bundle := goodIn_r _ [509, 100, 201, 202, 5, 203, 838, 839, 840, 841, 842, 843, 844, 845, 846, 847, 848] (by decide +kernel) (by decide +kernel)
set_option maxRecDepth 20000 in
theorem gL_law_X7_bundle : GoodIn wsL_law (wsV RL 56 RX7 yX7_bundle wsX7_bundle) := goodIn_app (goodIn_of _ (by decide +kernel)) ggL_law_X7_bundle
set_option maxRecDepth 20000 in
theorem ggL_law_X6_count : GoodIn wsL_law wsX6_count := goodIn_r _ [513, 16, 462, 514, 515, 516, 467, 517, 503, 504, 518, 519, 27, 520, 20, 521, 470, 317, 318, 15, 319, 40, 45, 320, 321, 322, 39, 323, 62, 181, 182, 183, 184, 58, 60, 473, 363, 364, 365, 50, 831, 832, 833, 834, 835, 836, 837, 849, 850, 851, 852, 853, 854, 855, 856, 857, 858, 859, 871, 872, 873, 874, 875, 876, 863, 864, 865, 866, 867, 868, 860, 861, 862] (by decide +kernel) (by decide +kernel)
set_option maxRecDepth 20000 in
theorem gL_law_X6_count : GoodIn wsL_law (wsV RL 57 RX6 yX6_count wsX6_count) := goodIn_app (goodIn_of _ (by decide +kernel)) ggL_law_X6_count
set_option maxRecDepth 20000 in
theorem ggL_law_X7_count : GoodIn wsL_law wsX7_count := goodIn_r _ [525, 100, 113, 526, 208, 201, 202, 5, 203, 389, 390, 391, 117, 118, 119, 108, 120, 121, 122, 395, 396, 397, 392, 393, 394, 838, 839, 840, 841, 842, 843, 844, 845, 846, 847, 848] (by decide +kernel) (by decide +kernel)
set_option maxRecDepth 20000 in
theorem gL_law_X7_count : GoodIn wsL_law (wsV RL 60 RX7 yX7_count wsX7_count) := goodIn_app (goodIn_of _ (by decide +kernel)) ggL_law_X7_count
set_option maxRecDepth 20000 in
theorem ggL_law_X6_bound : GoodIn wsL_law wsX6_bound := goodIn_r _ [530, 16, 462, 465, 531, 532, 533, 174, 175, 39, 176, 62, 177, 178, 179, 180, 61, 181, 182, 183, 184, 58, 60, 534, 359, 360, 15, 361, 50, 362, 363, 364, 365, 831, 832, 833, 834, 835, 836, 837, 849, 850, 851, 852, 853, 854, 855, 856, 857, 858, 859, 871, 872, 873, 874] (by decide +kernel) (by decide +kernel)
set_option maxRecDepth 20000 in
theorem gL_law_X6_bound : GoodIn wsL_law (wsV RL 61 RX6 yX6_bound wsX6_bound) := goodIn_app (goodIn_of _ (by decide +kernel)) ggL_law_X6_bound
set_option maxRecDepth 20000 in
theorem ggL_law_X7_bound : GoodIn wsL_law wsX7_bound := goodIn_r _ [538, 539, 100, 108, 201, 202, 5, 203, 114, 115, 116, 117, 118, 119, 120, 121, 122, 395, 396, 397, 113, 392, 393, 394, 838, 839, 840, 841, 842, 843, 844, 845, 846, 847, 848] (by decide +kernel) (by decide +kernel)
set_option maxRecDepth 20000 in
theorem gL_law_X7_bound : GoodIn wsL_law (wsV RL 65 RX7 yX7_bound wsX7_bound) := goodIn_app (goodIn_of _ (by decide +kernel)) ggL_law_X7_bound
set_option maxRecDepth 20000 in
theorem ggL_law_X6_boundThen : GoodIn wsL_law wsX6_boundThen := goodIn_r _ [543, 16, 33, 462, 544, 333, 334, 15, 335, 46, 45, 336, 337, 338, 179, 339, 340, 341, 342, 316, 317, 318, 319, 40, 320, 321, 322, 39, 323, 62, 181, 182, 183, 184, 58, 60, 343, 344, 345, 346, 253, 347, 348, 349, 350, 351, 2, 352, 353, 354, 355, 356, 47, 48, 51, 357, 178, 180, 173, 174, 175, 176, 177, 61, 358, 359, 360, 361, 50, 362, 363, 364, 365, 366, 367, 368, 369, 533, 831, 832, 833, 834, 835, 836, 837, 849, 850, 851, 852, 853, 854, 855, 856, 857, 858, 859, 871, 872, 873, 874] (by decide +kernel) (by decide +kernel)
set_option maxRecDepth 20000 in
theorem gL_law_X6_boundThen : GoodIn wsL_law (wsV RL 66 RX6 yX6_boundThen wsX6_boundThen) := goodIn_app (goodIn_of _ (by decide +kernel)) ggL_law_X6_boundThen
set_option maxRecDepth 20000 in
theorem ggL_law_X7_boundThen : GoodIn wsL_law wsX7_boundThen := goodIn_r _ [548, 100, 101, 209, 210, 5, 211, 380, 381, 382, 383, 384, 385, 108, 386, 387, 388, 389, 390, 391, 117, 118, 119, 120, 121, 122, 392, 393, 394, 114, 115, 116, 395, 396, 397, 113, 398, 399, 400, 401, 402, 403, 404, 305, 306, 307, 838, 839, 840, 841, 842, 843, 844, 845, 846, 847, 848] (by decide +kernel) (by decide +kernel)
set_option maxRecDepth 20000 in
theorem gL_law_X7_boundThen : GoodIn wsL_law (wsV RL 70 RX7 yX7_boundThen wsX7_boundThen) := goodIn_app (goodIn_of _ (by decide +kernel)) ggL_law_X7_boundThen
set_option maxRecDepth 20000 in
theorem ggL_law_X6_best : GoodIn wsL_law wsX6_best := goodIn_r _ [552, 31, 16, 462, 553, 554, 555, 30, 556, 93, 557, 558, 559, 560, 561, 562, 563, 136, 137, 138, 94, 564, 254, 2, 255, 256, 155, 156, 565, 566, 567, 568, 178, 179, 180, 569, 570, 571, 572, 573, 574, 575, 576, 577, 578, 579, 580, 581, 582, 583, 584, 585, 831, 832, 833, 834, 835, 836, 837, 849, 850, 851, 852, 853, 854, 855, 856, 857, 858, 859, 869, 870, 871, 872, 873, 874] (by decide +kernel) (by decide +kernel)
set_option maxRecDepth 20000 in
theorem gL_law_X6_best : GoodIn wsL_law (wsV RL 71 RX6 yX6_best wsX6_best) := goodIn_app (goodIn_of _ (by decide +kernel)) ggL_law_X6_best
set_option maxRecDepth 20000 in
theorem ggL_law_X7_best : GoodIn wsL_law wsX7_best := goodIn_r _ [589, 100, 201, 202, 5, 203, 590, 591, 592, 392, 393, 394, 120, 121, 122, 449, 450, 451, 838, 839, 840, 841, 842, 843, 844, 845, 846, 847, 848] (by decide +kernel) (by decide +kernel)
set_option maxRecDepth 20000 in
theorem gL_law_X7_best : GoodIn wsL_law (wsV RL 74 RX7 yX7_best wsX7_best) := goodIn_app (goodIn_of _ (by decide +kernel)) ggL_law_X7_best
