/-! ===== the words of the law are among the tables ===== -/
theorem mem_pl {big : List Cond} (ws : List Cond) (ps : List Nat) (hp : ws = ps.filterMap (fun i => big[i]?)) : ∀ w ∈ ws, w ∈ big := by
  intro w hw
  rw [hp] at hw
  obtain ⟨i, -, hi⟩ := List.mem_filterMap.mp hw
  first | exact List.mem_of_getElem? hi | exact List.getElem?_mem hi
set_option maxRecDepth 20000 in
theorem inl_wsL_law_r1 : ∀ w ∈ wsL_law_r1, w ∈ lw_tbl := mem_pl _ [53, 54, 38, 706, 707, 46, 993, 55, 56, 57, 58, 59, 60, 61, 62, 39, 225, 162, 163, 43, 226, 227, 210, 228] (by decide +kernel)
set_option maxRecDepth 20000 in
theorem inl_wsL_law_r2 : ∀ w ∈ wsL_law_r2, w ∈ lw_tbl := mem_pl _ [182, 183, 44, 229, 212, 213, 45, 230, 101, 231, 64, 65, 66, 67, 68, 40, 118, 102, 103, 42, 120, 122, 124, 125] (by decide +kernel)
set_option maxRecDepth 20000 in
theorem inl_wsL_law_r3 : ∀ w ∈ wsL_law_r3, w ∈ lw_tbl := mem_pl _ [127, 129, 131, 133, 135, 137, 69, 70, 71, 72, 78, 73, 81, 84, 88, 75, 76, 41, 77, 105, 106, 107, 108, 110] (by decide +kernel)
set_option maxRecDepth 20000 in
theorem inl_wsL_law_r4 : ∀ w ∈ wsL_law_r4, w ∈ lw_tbl := mem_pl _ [164, 165, 166, 167, 168, 171, 172, 173, 185, 186, 187, 211, 188, 189, 191, 192, 194, 196, 215, 216, 217, 218, 219, 708] (by decide +kernel)
set_option maxRecDepth 20000 in
theorem inl_wsL_law_r5 : ∀ w ∈ wsL_law_r5, w ∈ lw_tbl := mem_pl _ [709, 710, 711, 762, 728, 729, 730, 732, 733, 734, 737, 712, 713, 714, 716, 18, 717, 718, 719, 720, 721, 722, 723, 724] (by decide +kernel)
set_option maxRecDepth 20000 in
theorem inl_wsL_law_r6 : ∀ w ∈ wsL_law_r6, w ∈ lw_tbl := mem_pl _ [725, 726, 727, 247, 248, 249, 250, 251, 252, 253, 254, 255, 256, 257, 258, 271, 265, 264, 47, 259, 260, 261, 262, 263] (by decide +kernel)
set_option maxRecDepth 20000 in
theorem inl_wsL_law_r7 : ∀ w ∈ wsL_law_r7, w ∈ lw_tbl := mem_pl _ [266, 267, 268, 269, 270, 272, 273, 274, 275, 111, 90, 277, 278, 279, 280, 281, 282, 283, 284, 285, 286, 287, 288, 289] (by decide +kernel)
set_option maxRecDepth 20000 in
theorem inl_wsL_law_r8 : ∀ w ∈ wsL_law_r8, w ∈ lw_tbl := mem_pl _ [290, 291, 293, 0, 294, 295, 296, 297, 298, 303, 304, 48, 305, 299, 300, 301, 302, 306, 307, 308, 309, 310, 311, 312] (by decide +kernel)
set_option maxRecDepth 20000 in
theorem inl_wsL_law_r9 : ∀ w ∈ wsL_law_r9, w ∈ lw_tbl := mem_pl _ [785, 786, 787, 788, 789, 791, 20, 792, 793, 774, 775, 776, 781, 783, 19, 784, 731, 767, 768, 769, 794, 796, 21, 797] (by decide +kernel)
set_option maxRecDepth 20000 in
theorem inl_wsL_law_r10 : ∀ w ∈ wsL_law_r10, w ∈ lw_tbl := mem_pl _ [313, 314, 315, 316, 317, 318, 319, 320, 321, 322, 323, 324, 326, 327, 328, 329, 330, 798, 799, 800, 801, 802, 804, 22] (by decide +kernel)
set_option maxRecDepth 20000 in
theorem inl_wsL_law_r11 : ∀ w ∈ wsL_law_r11, w ∈ lw_tbl := mem_pl _ [805, 806, 808, 23, 809, 331, 332, 333, 334, 335, 336, 337, 338, 86, 340, 341, 342, 810, 811, 812, 813, 814, 815, 816] (by decide +kernel)
set_option maxRecDepth 20000 in
theorem inl_wsL_law_r12 : ∀ w ∈ wsL_law_r12, w ∈ lw_tbl := mem_pl _ [817, 818, 819, 820, 822, 24, 823, 824, 826, 25, 827, 343, 344, 345, 346, 347, 348, 349, 350, 828, 829, 830, 831, 351] (by decide +kernel)
set_option maxRecDepth 20000 in
theorem inl_wsL_law_r13 : ∀ w ∈ wsL_law_r13, w ∈ lw_tbl := mem_pl _ [352, 353, 354, 355, 356, 357, 358, 359, 360, 362, 1, 363, 832, 833, 834, 835, 836, 837, 838, 839, 364, 365, 366, 367] (by decide +kernel)
set_option maxRecDepth 20000 in
theorem inl_wsL_law_r14 : ∀ w ∈ wsL_law_r14, w ∈ lw_tbl := mem_pl _ [368, 369, 370, 371, 372, 373, 374, 375, 376, 377, 378, 379, 380, 381, 382, 383, 384, 386, 2, 387, 388, 389, 390, 391] (by decide +kernel)
set_option maxRecDepth 20000 in
theorem inl_wsL_law_r15 : ∀ w ∈ wsL_law_r15, w ∈ lw_tbl := mem_pl _ [422, 423, 424, 425, 419, 420, 421, 392, 393, 394, 395, 396, 397, 398, 399, 401, 402, 403, 405, 3, 406, 407, 408, 409] (by decide +kernel)
set_option maxRecDepth 20000 in
theorem inl_wsL_law_r16 : ∀ w ∈ wsL_law_r16, w ∈ lw_tbl := mem_pl _ [410, 411, 412, 413, 414, 415, 416, 417, 48, 418, 427, 428, 840, 841, 842, 843, 844, 846, 26, 847, 848, 849, 850, 851] (by decide +kernel)
set_option maxRecDepth 20000 in
theorem inl_wsL_law_r17 : ∀ w ∈ wsL_law_r17, w ∈ lw_tbl := mem_pl _ [852, 853, 854, 855, 856, 857, 858, 859, 860, 861, 862, 863, 864, 865, 866, 867, 868, 869, 870, 871, 872, 429, 430, 431] (by decide +kernel)
set_option maxRecDepth 20000 in
theorem inl_wsL_law_r18 : ∀ w ∈ wsL_law_r18, w ∈ lw_tbl := mem_pl _ [432, 433, 434, 435, 436, 437, 438, 439, 440, 441, 442, 443, 444, 445, 446, 448, 4, 449, 450, 452, 5, 453, 454, 456] (by decide +kernel)
set_option maxRecDepth 20000 in
theorem inl_wsL_law_r19 : ∀ w ∈ wsL_law_r19, w ∈ lw_tbl := mem_pl _ [6, 457, 458, 459, 460, 461, 873, 874, 875, 876, 877, 879, 27, 880, 881, 882, 883, 884, 885, 886, 887, 888, 889, 890] (by decide +kernel)
set_option maxRecDepth 20000 in
theorem inl_wsL_law_r20 : ∀ w ∈ wsL_law_r20, w ∈ lw_tbl := mem_pl _ [891, 892, 462, 463, 464, 465, 119, 80, 83, 123, 468, 130, 466, 467, 469, 470, 471, 472, 893, 894, 895, 896, 897, 899] (by decide +kernel)
set_option maxRecDepth 20000 in
theorem inl_wsL_law_r21 : ∀ w ∈ wsL_law_r21, w ∈ lw_tbl := mem_pl _ [28, 900, 901, 473, 474, 475, 476, 87, 477, 478, 479, 480, 481, 482, 483, 902, 903, 904, 905, 484, 485, 486, 487, 121] (by decide +kernel)
set_option maxRecDepth 20000 in
theorem inl_wsL_law_r22 : ∀ w ∈ wsL_law_r22, w ∈ lw_tbl := mem_pl _ [112, 109, 906, 907, 908, 909, 488, 489, 490, 491, 91, 126, 128, 132, 134, 136, 190, 174, 910, 911, 912, 913, 735, 492] (by decide +kernel)
set_option maxRecDepth 20000 in
theorem inl_wsL_law_r23 : ∀ w ∈ wsL_law_r23, w ∈ lw_tbl := mem_pl _ [493, 494, 495, 138, 498, 496, 497, 914, 915, 916, 917, 918, 499, 500, 501, 502, 503, 919, 920, 921, 922, 504, 505, 506] (by decide +kernel)
set_option maxRecDepth 20000 in
theorem inl_wsL_law_r24 : ∀ w ∈ wsL_law_r24, w ∈ lw_tbl := mem_pl _ [507, 508, 509, 510, 511, 89, 512, 514, 7, 515, 85, 516, 79, 518, 519, 520, 522, 523, 525, 8, 526, 82, 527, 529] (by decide +kernel)
set_option maxRecDepth 20000 in
theorem inl_wsL_law_r25 : ∀ w ∈ wsL_law_r25, w ∈ lw_tbl := mem_pl _ [9, 530, 531, 532, 533, 534, 535, 536, 537, 538, 923, 924, 925, 926, 927, 928, 929, 539, 540, 541, 542, 930, 931, 932] (by decide +kernel)
set_option maxRecDepth 20000 in
theorem inl_wsL_law_r26 : ∀ w ∈ wsL_law_r26, w ∈ lw_tbl := mem_pl _ [933, 543, 544, 545, 546, 547, 934, 935, 936, 937, 548, 549, 550, 551, 552, 553, 554, 555, 556, 557, 558, 559, 560, 561] (by decide +kernel)
set_option maxRecDepth 20000 in
theorem inl_wsL_law_r27 : ∀ w ∈ wsL_law_r27, w ∈ lw_tbl := mem_pl _ [938, 939, 940, 941, 942, 943, 944, 945, 946, 947, 948, 562, 563, 564, 565, 949, 950, 951, 952, 566, 567, 568, 569, 570] (by decide +kernel)
set_option maxRecDepth 20000 in
theorem inl_wsL_law_r28 : ∀ w ∈ wsL_law_r28, w ∈ lw_tbl := mem_pl _ [571, 572, 573, 574, 575, 576, 577, 578, 579, 580, 581, 582, 584, 10, 585, 586, 588, 11, 589, 590, 591, 592, 600, 601] (by decide +kernel)
set_option maxRecDepth 20000 in
theorem inl_wsL_law_r29 : ∀ w ∈ wsL_law_r29, w ∈ lw_tbl := mem_pl _ [602, 49, 603, 994, 604, 605, 606, 607, 608, 995, 610, 611, 612, 613, 614, 615, 616, 617, 618, 619, 50, 620, 621, 622] (by decide +kernel)
set_option maxRecDepth 20000 in
theorem inl_wsL_law_r30 : ∀ w ∈ wsL_law_r30, w ∈ lw_tbl := mem_pl _ [623, 624, 626, 627, 51, 628, 629, 630, 52, 631, 632, 633, 634, 635, 636, 637, 638, 639, 640, 641, 642, 644, 646, 648] (by decide +kernel)
set_option maxRecDepth 20000 in
theorem inl_wsL_law_r31 : ∀ w ∈ wsL_law_r31, w ∈ lw_tbl := mem_pl _ [650, 12, 651, 652, 654, 13, 655, 656, 658, 14, 659, 660, 662, 15, 663, 664, 666, 16, 667, 669, 670, 671, 672, 673] (by decide +kernel)
set_option maxRecDepth 20000 in
theorem inl_wsL_law_r32 : ∀ w ∈ wsL_law_r32, w ∈ lw_tbl := mem_pl _ [674, 675, 676, 953, 954, 955, 956, 736, 957, 959, 29, 960, 738, 961, 963, 30, 964, 965, 967, 31, 968, 969, 971, 32] (by decide +kernel)
set_option maxRecDepth 20000 in
theorem inl_wsL_law_r33 : ∀ w ∈ wsL_law_r33, w ∈ lw_tbl := mem_pl _ [972, 973, 975, 33, 976, 977, 979, 34, 980, 678, 679, 680, 681, 682, 683, 684, 685, 687, 17, 688, 195, 193, 981, 982] (by decide +kernel)
set_option maxRecDepth 20000 in
theorem inl_wsL_law_r34 : ∀ w ∈ wsL_law_r34, w ∈ lw_tbl := mem_pl _ [983, 984, 985, 987, 35, 988, 989, 991, 36, 992, 689, 690, 691, 692, 693, 694, 695, 696, 763, 764, 765, 766, 697, 698] (by decide +kernel)
set_option maxRecDepth 20000 in
theorem inl_wsL_law_r35 : ∀ w ∈ wsL_law_r35, w ∈ lw_tbl := mem_pl _ [699, 700, 701, 770, 771, 772, 773, 702, 703, 704, 705, 777, 778, 779, 780] (by decide +kernel)
set_option maxRecDepth 20000 in
theorem inX0 : ∀ w ∈ wsX00, w ∈ lw_tbl := mem_pl _ [113, 115] (by decide +kernel)
set_option maxRecDepth 20000 in
theorem inX1 : ∀ w ∈ wsX10, w ∈ lw_tbl := mem_pl _ [175, 177, 179] (by decide +kernel)
set_option maxRecDepth 20000 in
theorem inX2 : ∀ w ∈ wsX20, w ∈ lw_tbl := mem_pl _ [92, 94, 96, 98] (by decide +kernel)
set_option maxRecDepth 20000 in
theorem inX3 : ∀ w ∈ wsX30, w ∈ lw_tbl := mem_pl _ [197, 199, 201, 203, 205, 207] (by decide +kernel)
set_option maxRecDepth 20000 in
theorem inX4 : ∀ w ∈ wsX40, w ∈ lw_tbl := mem_pl _ [220, 222] (by decide +kernel)
set_option maxRecDepth 20000 in
theorem inX5 : ∀ w ∈ wsX50, w ∈ lw_tbl := mem_pl _ [139, 141, 143, 145, 147, 149, 151, 153, 155, 157, 159] (by decide +kernel)
set_option maxRecDepth 20000 in
theorem inX6 : ∀ w ∈ wsX60, w ∈ lw_tbl := mem_pl _ [232, 234, 236, 238, 240, 242, 244] (by decide +kernel)
set_option maxRecDepth 20000 in
theorem inX7 : ∀ w ∈ wsX70, w ∈ lw_tbl := mem_pl _ [739, 741, 743, 745, 747, 749, 751, 753, 755, 757, 759] (by decide +kernel)
theorem wsL_law_in : ∀ w ∈ wsL_law, w ∈ lw_tbl := (List.forall_mem_append.mpr ⟨(List.forall_mem_append.mpr ⟨(List.forall_mem_append.mpr ⟨(List.forall_mem_append.mpr ⟨(List.forall_mem_append.mpr ⟨(List.forall_mem_append.mpr ⟨(List.forall_mem_append.mpr ⟨(List.forall_mem_append.mpr ⟨(List.forall_mem_append.mpr ⟨(List.forall_mem_append.mpr ⟨inl_wsL_law_r1, (List.forall_mem_append.mpr ⟨inl_wsL_law_r2, (List.forall_mem_append.mpr ⟨inl_wsL_law_r3, (List.forall_mem_append.mpr ⟨inl_wsL_law_r4, (List.forall_mem_append.mpr ⟨inl_wsL_law_r5, (List.forall_mem_append.mpr ⟨inl_wsL_law_r6, (List.forall_mem_append.mpr ⟨inl_wsL_law_r7, (List.forall_mem_append.mpr ⟨inl_wsL_law_r8, (List.forall_mem_append.mpr ⟨inl_wsL_law_r9, (List.forall_mem_append.mpr ⟨inl_wsL_law_r10, (List.forall_mem_append.mpr ⟨inl_wsL_law_r11, (List.forall_mem_append.mpr ⟨inl_wsL_law_r12, (List.forall_mem_append.mpr ⟨inl_wsL_law_r13, (List.forall_mem_append.mpr ⟨inl_wsL_law_r14, (List.forall_mem_append.mpr ⟨inl_wsL_law_r15, (List.forall_mem_append.mpr ⟨inl_wsL_law_r16, (List.forall_mem_append.mpr ⟨inl_wsL_law_r17, (List.forall_mem_append.mpr ⟨inl_wsL_law_r18, (List.forall_mem_append.mpr ⟨inl_wsL_law_r19, (List.forall_mem_append.mpr ⟨inl_wsL_law_r20, (List.forall_mem_append.mpr ⟨inl_wsL_law_r21, (List.forall_mem_append.mpr ⟨inl_wsL_law_r22, (List.forall_mem_append.mpr ⟨inl_wsL_law_r23, (List.forall_mem_append.mpr ⟨inl_wsL_law_r24, (List.forall_mem_append.mpr ⟨inl_wsL_law_r25, (List.forall_mem_append.mpr ⟨inl_wsL_law_r26, (List.forall_mem_append.mpr ⟨inl_wsL_law_r27, (List.forall_mem_append.mpr ⟨inl_wsL_law_r28, (List.forall_mem_append.mpr ⟨inl_wsL_law_r29, (List.forall_mem_append.mpr ⟨inl_wsL_law_r30, (List.forall_mem_append.mpr ⟨inl_wsL_law_r31, (List.forall_mem_append.mpr ⟨inl_wsL_law_r32, (List.forall_mem_append.mpr ⟨inl_wsL_law_r33, (List.forall_mem_append.mpr ⟨inl_wsL_law_r34, inl_wsL_law_r35⟩)⟩)⟩)⟩)⟩)⟩)⟩)⟩)⟩)⟩)⟩)⟩)⟩)⟩)⟩)⟩)⟩)⟩)⟩)⟩)⟩)⟩)⟩)⟩)⟩)⟩)⟩)⟩)⟩)⟩)⟩)⟩)⟩)⟩), inX6⟩), inX7⟩), inX5⟩), inX1⟩), inX3⟩), inX4⟩), inX2⟩), inX0⟩), fun _ h => absurd h List.not_mem_nil⟩)
