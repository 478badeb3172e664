set_option maxRecDepth 20000 in
theorem ggL_law_X6_worthOf : GoodIn wsL_law wsX6_worthOf := goodIn_r _ [596, 31, 16, 462, 488, 254, 2, 255, 256, 155, 156, 553, 554, 555, 30, 556, 93, 557, 558, 559, 560, 561, 562, 563, 136, 137, 138, 94, 564, 565, 566, 567, 568, 178, 179, 180, 569, 570, 571, 572, 573, 574, 575, 576, 577, 831, 832, 833, 834, 835, 836, 837, 849, 850, 851, 852, 853, 854, 855, 856, 857, 858, 859, 869, 870, 871, 872, 873, 874] (by decide +kernel) (by decide +kernel)
set_option maxRecDepth 20000 in
theorem gL_law_X6_worthOf : GoodIn wsL_law (wsV RL 75 RX6 yX6_worthOf wsX6_worthOf) := goodIn_app (goodIn_of _ (by decide +kernel)) ggL_law_X6_worthOf
set_option maxRecDepth 20000 in
theorem ggL_law_X7_worthOf : GoodIn wsL_law wsX7_worthOf := goodIn_r _ [600, 100, 101, 264, 265, 5, 266, 201, 202, 203, 209, 210, 211, 590, 591, 592, 392, 393, 394, 120, 121, 122, 449, 450, 451, 838, 839, 840, 841, 842, 843, 844, 845, 846, 847, 848] (by decide +kernel) (by decide +kernel)
set_option maxRecDepth 20000 in
theorem gL_law_X7_worthOf : GoodIn wsL_law (wsV RL 78 RX7 yX7_worthOf wsX7_worthOf) := goodIn_app (goodIn_of _ (by decide +kernel)) ggL_law_X7_worthOf
set_option maxRecDepth 20000 in
theorem ggL_law_X6_repaired : GoodIn wsL_law wsX6_repaired := goodIn_r _ [604, 16, 462, 605, 414, 415, 39, 416, 62, 417, 418, 419, 420, 61, 421, 348, 349, 350, 60, 351, 2, 352, 422, 423, 424, 425, 177, 178, 179, 180, 426, 427, 428, 429, 430, 431, 432, 433, 58, 831, 832, 833, 834, 835, 836, 837, 849, 850, 851, 852, 853, 854, 855, 856, 857, 858, 859, 871, 872, 873, 874] (by decide +kernel) (by decide +kernel)
set_option maxRecDepth 20000 in
theorem gL_law_X6_repaired : GoodIn wsL_law (wsV RL 79 RX6 yX6_repaired wsX6_repaired) := goodIn_app (goodIn_of _ (by decide +kernel)) ggL_law_X6_repaired
set_option maxRecDepth 20000 in
theorem ggL_law_X7_repaired : GoodIn wsL_law wsX7_repaired := goodIn_r _ [609, 100, 446, 447, 5, 448, 449, 450, 451, 392, 393, 394, 120, 121, 122, 452, 453, 454, 455, 456, 457, 838, 839, 840, 841, 842, 843, 844, 845, 846, 847, 848] (by decide +kernel) (by decide +kernel)
set_option maxRecDepth 20000 in
theorem gL_law_X7_repaired : GoodIn wsL_law (wsV RL 82 RX7 yX7_repaired wsX7_repaired) := goodIn_app (goodIn_of _ (by decide +kernel)) ggL_law_X7_repaired
set_option maxRecDepth 20000 in
theorem ggL_law_X6_put : GoodIn wsL_law wsX6_put := goodIn_r _ [613, 27, 520, 614, 615, 2, 616, 617, 618, 619, 256, 155, 156, 620, 621, 622, 26, 623, 85, 84, 831, 832, 833, 834, 835, 836, 837, 863, 864, 865, 866, 867, 868] (by decide +kernel) (by decide +kernel)
set_option maxRecDepth 20000 in
theorem gL_law_X6_put : GoodIn wsL_law (wsV RL 85 RX6 yX6_put wsX6_put) := goodIn_app (goodIn_of _ (by decide +kernel)) ggL_law_X6_put
set_option maxRecDepth 20000 in
theorem ggL_law_X7_put : GoodIn wsL_law wsX7_put := goodIn_r _ [627, 526, 105, 628, 629, 5, 630, 631, 632, 633, 634, 201, 202, 203, 838, 839, 840, 841, 842, 843, 844, 845, 846, 847, 848] (by decide +kernel) (by decide +kernel)
set_option maxRecDepth 20000 in
theorem gL_law_X7_put : GoodIn wsL_law (wsV RL 89 RX7 yX7_put wsX7_put) := goodIn_app (goodIn_of _ (by decide +kernel)) ggL_law_X7_put
set_option maxRecDepth 20000 in
theorem ggL_law_X6_wipe : GoodIn wsL_law wsX6_wipe := goodIn_r _ [638, 27, 520, 831, 832, 833, 834, 835, 836, 837, 863, 864, 865, 866, 867, 868] (by decide +kernel) (by decide +kernel)
set_option maxRecDepth 20000 in
theorem gL_law_X6_wipe : GoodIn wsL_law (wsV RL 90 RX6 yX6_wipe wsX6_wipe) := goodIn_app (goodIn_of _ (by decide +kernel)) ggL_law_X6_wipe
set_option maxRecDepth 20000 in
theorem ggL_law_X7_wipe : GoodIn wsL_law wsX7_wipe := goodIn_r _ [642, 526, 838, 839, 840, 841, 842, 843, 844, 845, 846, 847, 848] (by decide +kernel) (by decide +kernel)
set_option maxRecDepth 20000 in
theorem gL_law_X7_wipe : GoodIn wsL_law (wsV RL 93 RX7 yX7_wipe wsX7_wipe) := goodIn_app (goodIn_of _ (by decide +kernel)) ggL_law_X7_wipe
set_option maxRecDepth 20000 in
theorem ggL_law_X6_fault : GoodIn wsL_law wsX6_fault := goodIn_r _ [646, 27, 647, 648, 649, 26, 650, 86, 651, 652, 653, 654, 655, 656, 657, 658, 87, 89, 659, 660, 661, 662, 663, 664, 665, 666, 85, 84, 667, 668, 669, 670, 671, 672, 673, 674, 675, 676, 677, 678, 679, 680, 681, 682, 683, 684, 685, 686, 687, 688, 689, 690, 691, 692, 693, 694, 695, 696, 697, 698, 699, 700, 701, 702, 703, 704, 705, 706, 707, 708, 709, 710, 711, 712, 713, 714, 715, 716, 717, 718, 719, 720, 721, 722, 723, 724, 725, 726, 727, 728, 729, 730, 731, 732, 733, 734, 88, 735, 736, 737, 738, 155, 2, 156, 739, 740, 741, 742, 743, 744, 745, 746, 831, 832, 833, 834, 835, 836, 837, 863, 864, 865, 866, 867, 868] (by decide +kernel) (by decide +kernel)
set_option maxRecDepth 20000 in
theorem gL_law_X6_fault : GoodIn wsL_law (wsV RL 94 RX6 yX6_fault wsX6_fault) := goodIn_app (goodIn_of _ (by decide +kernel)) ggL_law_X6_fault
set_option maxRecDepth 20000 in
theorem ggL_law_X7_fault : GoodIn wsL_law wsX7_fault := goodIn_r _ [750, 751, 752, 753, 754, 5, 755, 756, 526, 757, 758, 759, 760, 105, 106, 761, 762, 763, 764, 765, 766, 767, 768, 201, 202, 203, 769, 770, 771, 772, 773, 774, 775, 776, 838, 839, 840, 841, 842, 843, 844, 845, 846, 847, 848] (by decide +kernel) (by decide +kernel)
set_option maxRecDepth 20000 in
theorem gL_law_X7_fault : GoodIn wsL_law (wsV RL 97 RX7 yX7_fault wsX7_fault) := goodIn_app (goodIn_of _ (by decide +kernel)) ggL_law_X7_fault
