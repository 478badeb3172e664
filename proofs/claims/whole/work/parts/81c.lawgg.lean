set_option maxRecDepth 20000 in
theorem ggL_law_X6_multiplier : GoodIn wsL_law wsX6_multiplier := goodIn_r _ [290, 20, 16, 127, 128, 129, 19, 130, 77, 78, 131, 132, 133, 15, 134, 40, 44, 45, 135, 136, 137, 138, 47, 48, 49, 50, 51, 52, 53, 139, 140, 141, 39, 142, 58, 143, 60, 61, 62, 144, 145, 146, 43, 147, 70, 148, 71, 291, 292, 293, 294, 295, 254, 2, 255, 256, 155, 156, 296, 297, 298, 299, 173, 174, 175, 176, 177, 178, 179, 180, 181, 182, 183, 184, 185, 186, 187, 188, 79, 189, 190, 191, 831, 832, 833, 834, 835, 836, 837, 860, 861, 862, 849, 850, 851, 852, 853, 854, 855, 856, 857, 858, 859, 871, 872, 873, 874, 875, 876] (by decide +kernel) (by decide +kernel)
set_option maxRecDepth 20000 in
theorem gL_law_X6_multiplier : GoodIn wsL_law (wsV RL 32 RX6 yX6_multiplier wsX6_multiplier) := goodIn_app (goodIn_of _ (by decide +kernel)) ggL_law_X6_multiplier
set_option maxRecDepth 20000 in
theorem ggL_law_X7_multiplier : GoodIn wsL_law wsX7_multiplier := goodIn_r _ [303, 304, 100, 264, 265, 5, 266, 201, 202, 203, 204, 205, 206, 207, 208, 102, 209, 210, 211, 271, 272, 273, 274, 305, 306, 307, 114, 115, 116, 117, 118, 119, 108, 120, 121, 122, 838, 839, 840, 841, 842, 843, 844, 845, 846, 847, 848] (by decide +kernel) (by decide +kernel)
set_option maxRecDepth 20000 in
theorem gL_law_X7_multiplier : GoodIn wsL_law (wsV RL 35 RX7 yX7_multiplier wsX7_multiplier) := goodIn_app (goodIn_of _ (by decide +kernel)) ggL_law_X7_multiplier
set_option maxRecDepth 20000 in
theorem ggL_law_X6_step : GoodIn wsL_law wsX6_step := goodIn_r _ [311, 20, 16, 127, 128, 129, 19, 130, 77, 78, 131, 132, 133, 15, 134, 40, 44, 45, 135, 136, 137, 138, 47, 48, 49, 50, 51, 52, 53, 139, 140, 141, 39, 142, 58, 143, 60, 61, 62, 144, 145, 146, 43, 147, 70, 148, 71, 312, 313, 314, 315, 155, 2, 156, 316, 317, 318, 319, 320, 321, 322, 323, 181, 182, 183, 184, 324, 325, 326, 327, 328, 329, 330, 331, 332, 333, 334, 335, 46, 336, 337, 338, 179, 339, 340, 341, 342, 343, 344, 345, 346, 253, 347, 348, 349, 350, 351, 352, 353, 354, 355, 356, 357, 178, 180, 173, 174, 175, 176, 177, 358, 359, 360, 361, 362, 363, 364, 365, 366, 367, 368, 369, 296, 297, 298, 299, 370, 371, 185, 186, 187, 188, 79, 189, 190, 191, 831, 832, 833, 834, 835, 836, 837, 860, 861, 862, 849, 850, 851, 852, 853, 854, 855, 856, 857, 858, 859, 871, 872, 873, 874, 875, 876] (by decide +kernel) (by decide +kernel)
set_option maxRecDepth 20000 in
theorem gL_law_X6_step : GoodIn wsL_law (wsV RL 36 RX6 yX6_step wsX6_step) := goodIn_app (goodIn_of _ (by decide +kernel)) ggL_law_X6_step
set_option maxRecDepth 20000 in
theorem ggL_law_X7_step : GoodIn wsL_law wsX7_step := goodIn_r _ [375, 201, 202, 5, 203, 204, 205, 206, 207, 208, 102, 100, 209, 210, 211, 376, 377, 378, 379, 380, 381, 382, 383, 384, 385, 108, 386, 387, 388, 389, 390, 391, 117, 118, 119, 120, 121, 122, 392, 393, 394, 114, 115, 116, 395, 396, 397, 113, 398, 399, 400, 401, 402, 403, 404, 305, 306, 307, 838, 839, 840, 841, 842, 843, 844, 845, 846, 847, 848] (by decide +kernel) (by decide +kernel)
set_option maxRecDepth 20000 in
theorem gL_law_X7_step : GoodIn wsL_law (wsV RL 39 RX7 yX7_step wsX7_step) := goodIn_app (goodIn_of _ (by decide +kernel)) ggL_law_X7_step
set_option maxRecDepth 20000 in
theorem ggL_law_X6_repair : GoodIn wsL_law wsX6_repair := goodIn_r _ [408, 20, 16, 127, 128, 129, 19, 130, 77, 78, 131, 132, 133, 15, 134, 40, 44, 45, 135, 136, 137, 138, 47, 48, 49, 50, 51, 52, 53, 139, 140, 141, 39, 142, 58, 143, 60, 61, 62, 144, 145, 146, 43, 147, 70, 148, 71, 409, 410, 411, 412, 316, 317, 318, 319, 320, 321, 322, 323, 181, 182, 183, 184, 413, 414, 415, 416, 417, 418, 419, 420, 421, 348, 349, 350, 351, 2, 352, 422, 423, 424, 425, 177, 178, 179, 180, 426, 427, 428, 429, 430, 431, 432, 433, 434, 435, 436, 437, 362, 363, 364, 365, 185, 186, 187, 188, 79, 189, 190, 191, 831, 832, 833, 834, 835, 836, 837, 860, 861, 862, 849, 850, 851, 852, 853, 854, 855, 856, 857, 858, 859, 871, 872, 873, 874, 875, 876] (by decide +kernel) (by decide +kernel)
set_option maxRecDepth 20000 in
theorem gL_law_X6_repair : GoodIn wsL_law (wsV RL 40 RX6 yX6_repair wsX6_repair) := goodIn_app (goodIn_of _ (by decide +kernel)) ggL_law_X6_repair
set_option maxRecDepth 20000 in
theorem ggL_law_X7_repair : GoodIn wsL_law wsX7_repair := goodIn_r _ [441, 204, 205, 206, 5, 207, 208, 102, 100, 209, 210, 211, 442, 443, 444, 445, 113, 389, 390, 391, 117, 118, 119, 108, 120, 121, 122, 446, 447, 448, 449, 450, 451, 392, 393, 394, 452, 453, 454, 455, 456, 457, 395, 396, 397, 838, 839, 840, 841, 842, 843, 844, 845, 846, 847, 848] (by decide +kernel) (by decide +kernel)
set_option maxRecDepth 20000 in
theorem gL_law_X7_repair : GoodIn wsL_law (wsV RL 44 RX7 yX7_repair wsX7_repair) := goodIn_app (goodIn_of _ (by decide +kernel)) ggL_law_X7_repair
set_option maxRecDepth 20000 in
theorem ggL_law_X6_ofItem : GoodIn wsL_law wsX6_ofItem := goodIn_r _ [461, 16, 462, 463, 464, 465, 466, 467, 468, 225, 226, 39, 227, 62, 155, 2, 156, 469, 182, 183, 184, 58, 60, 470, 317, 318, 15, 319, 40, 45, 320, 321, 322, 323, 181, 471, 351, 352, 472, 370, 371, 473, 363, 364, 365, 50, 831, 832, 833, 834, 835, 836, 837, 849, 850, 851, 852, 853, 854, 855, 856, 857, 858, 859, 871, 872, 873, 874] (by decide +kernel) (by decide +kernel)
set_option maxRecDepth 20000 in
theorem gL_law_X6_ofItem : GoodIn wsL_law (wsV RL 45 RX6 yX6_ofItem wsX6_ofItem) := goodIn_app (goodIn_of _ (by decide +kernel)) ggL_law_X6_ofItem
set_option maxRecDepth 20000 in
theorem ggL_law_X7_ofItem : GoodIn wsL_law wsX7_ofItem := goodIn_r _ [477, 237, 238, 239, 5, 240, 100, 201, 202, 203, 478, 479, 480, 481, 482, 113, 120, 121, 122, 117, 118, 119, 108, 389, 390, 391, 838, 839, 840, 841, 842, 843, 844, 845, 846, 847, 848] (by decide +kernel) (by decide +kernel)
set_option maxRecDepth 20000 in
theorem gL_law_X7_ofItem : GoodIn wsL_law (wsV RL 48 RX7 yX7_ofItem wsX7_ofItem) := goodIn_app (goodIn_of _ (by decide +kernel)) ggL_law_X7_ofItem
set_option maxRecDepth 20000 in
theorem ggL_law_X6_ofDimension : GoodIn wsL_law wsX6_ofDimension := goodIn_r _ [486, 16, 462, 487, 465, 467, 488, 254, 2, 255, 256, 155, 156, 470, 317, 318, 15, 319, 40, 45, 320, 321, 322, 39, 323, 62, 181, 182, 183, 184, 58, 60, 489, 344, 345, 346, 253, 347, 348, 349, 350, 351, 352, 473, 363, 364, 365, 50, 490, 491, 492, 493, 494, 49, 472, 370, 371, 831, 832, 833, 834, 835, 836, 837, 849, 850, 851, 852, 853, 854, 855, 856, 857, 858, 859, 871, 872, 873, 874] (by decide +kernel) (by decide +kernel)
set_option maxRecDepth 20000 in
theorem gL_law_X6_ofDimension : GoodIn wsL_law (wsV RL 49 RX6 yX6_ofDimension wsX6_ofDimension) := goodIn_app (goodIn_of _ (by decide +kernel)) ggL_law_X6_ofDimension
set_option maxRecDepth 20000 in
theorem ggL_law_X7_ofDimension : GoodIn wsL_law wsX7_ofDimension := goodIn_r _ [498, 100, 113, 264, 265, 5, 266, 201, 202, 203, 386, 387, 388, 389, 390, 391, 117, 118, 119, 108, 120, 121, 122, 392, 393, 394, 838, 839, 840, 841, 842, 843, 844, 845, 846, 847, 848] (by decide +kernel) (by decide +kernel)
set_option maxRecDepth 20000 in
theorem gL_law_X7_ofDimension : GoodIn wsL_law (wsV RL 52 RX7 yX7_ofDimension wsX7_ofDimension) := goodIn_app (goodIn_of _ (by decide +kernel)) ggL_law_X7_ofDimension
