set_option maxRecDepth 20000 in
theorem wL_1 : ∀ w ∈ wsL_law_r1, w ∈ lw_tbl := fun w h => (goodIn_r wsL_law_r1 [70, 71, 57, 771, 772, 65, 72, 73, 74, 75, 76, 77, 78, 79, 58, 269, 203, 204, 62, 270, 222, 223, 63, 271] (by decide +kernel) (by decide +kernel) w h).1
set_option maxRecDepth 20000 in
theorem wL_2 : ∀ w ∈ wsL_law_r2, w ∈ lw_tbl := fun w h => (goodIn_r wsL_law_r2 [244, 245, 64, 272, 101, 273, 274, 81, 82, 83, 144, 148, 150, 152, 154, 156, 158, 160, 162, 84, 85, 59, 163, 102] (by decide +kernel) (by decide +kernel) w h).1
set_option maxRecDepth 20000 in
theorem wL_3 : ∀ w ∈ wsL_law_r3, w ∈ lw_tbl := fun w h => (goodIn_r wsL_law_r3 [103, 60, 165, 168, 170, 120, 121, 61, 172, 87, 88, 89, 90, 92, 93, 104, 105, 106, 107, 119, 108, 111, 122, 123] (by decide +kernel) (by decide +kernel) w h).1
set_option maxRecDepth 20000 in
theorem wL_4 : ∀ w ∈ wsL_law_r4, w ∈ lw_tbl := fun w h => (goodIn_r wsL_law_r4 [124, 125, 128, 131, 126, 134, 127, 206, 207, 208, 209, 211, 212, 213, 225, 226, 227, 228, 231, 234, 247, 248, 249, 250] (by decide +kernel) (by decide +kernel) w h).1
set_option maxRecDepth 20000 in
theorem wL_5 : ∀ w ∈ wsL_law_r5, w ∈ lw_tbl := fun w h => (goodIn_r wsL_law_r5 [252, 253, 254, 256, 257, 251, 773, 774, 775, 776, 777, 778, 780, 781, 782, 783, 785, 786, 787, 788, 288, 289, 290, 291] (by decide +kernel) (by decide +kernel) w h).1
set_option maxRecDepth 20000 in
theorem wL_6 : ∀ w ∈ wsL_law_r6, w ∈ lw_tbl := fun w h => (goodIn_r wsL_law_r6 [146, 292, 293, 294, 295, 296, 297, 298, 299, 300, 302, 303, 304, 305, 306, 308, 307, 66, 309, 310, 311, 312, 313, 314] (by decide +kernel) (by decide +kernel) w h).1
set_option maxRecDepth 20000 in
theorem wL_7 : ∀ w ∈ wsL_law_r7, w ∈ lw_tbl := fun w h => (goodIn_r wsL_law_r7 [315, 316, 317, 318, 319, 320, 321, 322, 323, 324, 325, 326, 327, 328, 329, 330, 331, 332, 333, 334, 336, 0, 337, 338] (by decide +kernel) (by decide +kernel) w h).1
set_option maxRecDepth 20000 in
theorem wL_8 : ∀ w ∈ wsL_law_r8, w ∈ lw_tbl := fun w h => (goodIn_r wsL_law_r8 [339, 340, 341, 342, 343, 344, 345, 346, 347, 348, 349, 350, 351, 352, 354, 1, 355, 356, 358, 2, 359, 821, 822, 823] (by decide +kernel) (by decide +kernel) w h).1
set_option maxRecDepth 20000 in
theorem wL_9 : ∀ w ∈ wsL_law_r9, w ∈ lw_tbl := fun w h => (goodIn_r wsL_law_r9 [824, 825, 826, 830, 827, 828, 829, 831, 833, 29, 834, 779, 835, 837, 30, 838, 839, 840, 842, 31, 843, 844, 845, 847] (by decide +kernel) (by decide +kernel) w h).1
set_option maxRecDepth 20000 in
theorem wL_10 : ∀ w ∈ wsL_law_r10, w ∈ lw_tbl := fun w h => (goodIn_r wsL_law_r10 [32, 848, 849, 851, 33, 852, 853, 854, 855, 360, 361, 362, 363, 364, 366, 3, 367, 368, 370, 4, 371, 372, 373, 374] (by decide +kernel) (by decide +kernel) w h).1
set_option maxRecDepth 20000 in
theorem wL_11 : ∀ w ∈ wsL_law_r11, w ∈ lw_tbl := fun w h => (goodIn_r wsL_law_r11 [375, 376, 377, 378, 379, 380, 381, 382, 383, 384, 385, 67, 386, 387, 388, 389, 856, 857, 858, 859, 860, 862, 34, 863] (by decide +kernel) (by decide +kernel) w h).1
set_option maxRecDepth 20000 in
theorem wL_12 : ∀ w ∈ wsL_law_r12, w ∈ lw_tbl := fun w h => (goodIn_r wsL_law_r12 [864, 866, 35, 867, 868, 870, 36, 871, 390, 391, 392, 393, 173, 394, 395, 396, 397, 398, 400, 5, 401, 402, 403, 404] (by decide +kernel) (by decide +kernel) w h).1
set_option maxRecDepth 20000 in
theorem wL_13 : ∀ w ∈ wsL_law_r13, w ∈ lw_tbl := fun w h => (goodIn_r wsL_law_r13 [405, 406, 407, 408, 409, 872, 873, 874, 875, 876, 878, 37, 879, 880, 882, 38, 883, 410, 411, 412, 413, 414, 416, 6] (by decide +kernel) (by decide +kernel) w h).1
set_option maxRecDepth 20000 in
theorem wL_14 : ∀ w ∈ wsL_law_r14, w ∈ lw_tbl := fun w h => (goodIn_r wsL_law_r14 [417, 418, 419, 420, 421, 422, 423, 424, 425, 426, 427, 428, 429, 884, 885, 886, 887, 888, 890, 39, 891, 430, 431, 432] (by decide +kernel) (by decide +kernel) w h).1
set_option maxRecDepth 20000 in
theorem wL_15 : ∀ w ∈ wsL_law_r15, w ∈ lw_tbl := fun w h => (goodIn_r wsL_law_r15 [433, 892, 893, 894, 895, 434, 435, 436, 437, 438, 439, 440, 441, 442, 443, 444, 445, 446, 447, 448, 449, 450, 451, 452] (by decide +kernel) (by decide +kernel) w h).1
set_option maxRecDepth 20000 in
theorem wL_16 : ∀ w ∈ wsL_law_r16, w ∈ lw_tbl := fun w h => (goodIn_r wsL_law_r16 [453, 454, 455, 456, 457, 458, 459, 461, 462, 463, 464, 465, 466, 467, 468, 470, 7, 471, 472, 474, 8, 475, 896, 897] (by decide +kernel) (by decide +kernel) w h).1
set_option maxRecDepth 20000 in
theorem wL_17 : ∀ w ∈ wsL_law_r17, w ∈ lw_tbl := fun w h => (goodIn_r wsL_law_r17 [898, 899, 900, 902, 40, 903, 904, 906, 41, 907, 476, 477, 478, 479, 480, 481, 482, 483, 484, 485, 486, 488, 9, 489] (by decide +kernel) (by decide +kernel) w h).1
set_option maxRecDepth 20000 in
theorem wL_18 : ∀ w ∈ wsL_law_r18, w ∈ lw_tbl := fun w h => (goodIn_r wsL_law_r18 [490, 491, 492, 493, 494, 495, 908, 909, 910, 911, 912, 914, 42, 915, 496, 497, 498, 499, 500, 501, 502, 503, 504, 505] (by decide +kernel) (by decide +kernel) w h).1
set_option maxRecDepth 20000 in
theorem wL_19 : ∀ w ∈ wsL_law_r19, w ∈ lw_tbl := fun w h => (goodIn_r wsL_law_r19 [506, 507, 509, 10, 510, 110, 113, 511, 512, 513, 514, 515, 517, 11, 518, 519, 520, 68, 521, 522, 523, 524, 525, 526] (by decide +kernel) (by decide +kernel) w h).1
set_option maxRecDepth 20000 in
theorem wL_20 : ∀ w ∈ wsL_law_r20, w ∈ lw_tbl := fun w h => (goodIn_r wsL_law_r20 [527, 528, 529, 531, 12, 532, 533, 535, 13, 536, 537, 539, 14, 540, 916, 917, 918, 919, 920, 921, 923, 43, 924, 925] (by decide +kernel) (by decide +kernel) w h).1
set_option maxRecDepth 20000 in
theorem wL_21 : ∀ w ∈ wsL_law_r21, w ∈ lw_tbl := fun w h => (goodIn_r wsL_law_r21 [927, 44, 928, 929, 931, 45, 932, 933, 935, 46, 936, 937, 939, 47, 940, 541, 542, 543, 544, 545, 546, 547, 548, 549] (by decide +kernel) (by decide +kernel) w h).1
set_option maxRecDepth 20000 in
theorem wL_22 : ∀ w ∈ wsL_law_r22, w ∈ lw_tbl := fun w h => (goodIn_r wsL_law_r22 [550, 551, 552, 553, 941, 942, 943, 944, 554, 555, 556, 557, 132, 558, 559, 560, 561, 562, 130, 133, 136, 563, 564, 565] (by decide +kernel) (by decide +kernel) w h).1
set_option maxRecDepth 20000 in
theorem wL_23 : ∀ w ∈ wsL_law_r23, w ∈ lw_tbl := fun w h => (goodIn_r wsL_law_r23 [566, 567, 945, 946, 947, 948, 949, 951, 48, 952, 953, 568, 569, 570, 571, 129, 572, 573, 574, 575, 954, 955, 956, 957] (by decide +kernel) (by decide +kernel) w h).1
set_option maxRecDepth 20000 in
theorem wL_24 : ∀ w ∈ wsL_law_r24, w ∈ lw_tbl := fun w h => (goodIn_r wsL_law_r24 [576, 577, 578, 579, 151, 958, 959, 960, 961, 580, 581, 582, 583, 236, 584, 585, 586, 587, 145, 588, 589, 590, 592, 15] (by decide +kernel) (by decide +kernel) w h).1
set_option maxRecDepth 20000 in
theorem wL_25 : ∀ w ∈ wsL_law_r25, w ∈ lw_tbl := fun w h => (goodIn_r wsL_law_r25 [593, 594, 596, 16, 597, 230, 233, 598, 962, 963, 964, 965, 966, 784, 967, 969, 49, 970, 599, 600, 601, 602, 603, 605] (by decide +kernel) (by decide +kernel) w h).1
set_option maxRecDepth 20000 in
theorem wL_26 : ∀ w ∈ wsL_law_r26, w ∈ lw_tbl := fun w h => (goodIn_r wsL_law_r26 [17, 606, 971, 972, 973, 974, 975, 607, 608, 609, 610, 164, 611, 612, 613, 614, 615, 616, 976, 977, 978, 979, 980, 982] (by decide +kernel) (by decide +kernel) w h).1
set_option maxRecDepth 20000 in
theorem wL_27 : ∀ w ∈ wsL_law_r27, w ∈ lw_tbl := fun w h => (goodIn_r wsL_law_r27 [50, 983, 617, 618, 619, 620, 214, 621, 622, 623, 624, 817, 818, 819, 820, 625, 626, 627, 628, 155, 157, 159, 161, 91] (by decide +kernel) (by decide +kernel) w h).1
set_option maxRecDepth 20000 in
theorem wL_28 : ∀ w ∈ wsL_law_r28, w ∈ lw_tbl := fun w h => (goodIn_r wsL_law_r28 [984, 985, 986, 987, 988, 629, 630, 631, 632, 167, 633, 989, 990, 991, 992, 634, 635, 636, 637, 653, 638, 640, 18, 641] (by decide +kernel) (by decide +kernel) w h).1
set_option maxRecDepth 20000 in
theorem wL_29 : ∀ w ∈ wsL_law_r29, w ∈ lw_tbl := fun w h => (goodIn_r wsL_law_r29 [642, 644, 19, 645, 646, 647, 648, 649, 650, 651, 652, 993, 994, 995, 996, 997, 999, 51, 1000, 1001, 1003, 52, 1004, 1005] (by decide +kernel) (by decide +kernel) w h).1
set_option maxRecDepth 20000 in
theorem wL_30 : ∀ w ∈ wsL_law_r30, w ∈ lw_tbl := fun w h => (goodIn_r wsL_law_r30 [1006, 69, 1007, 1011, 1013, 1012, 69, 1014, 1008, 1009, 1010, 654, 655, 656, 657, 169, 658, 1015, 1016, 1017, 1018, 659, 660, 661] (by decide +kernel) (by decide +kernel) w h).1
set_option maxRecDepth 20000 in
theorem wL_31 : ∀ w ∈ wsL_law_r31, w ∈ lw_tbl := fun w h => (goodIn_r wsL_law_r31 [662, 135, 1019, 1020, 1021, 1022, 1023, 663, 664, 665, 666, 171, 667, 668, 669, 670, 1024, 1025, 1026, 1027, 671, 672, 673, 674] (by decide +kernel) (by decide +kernel) w h).1
set_option maxRecDepth 20000 in
theorem wL_32 : ∀ w ∈ wsL_law_r32, w ∈ lw_tbl := fun w h => (goodIn_r wsL_law_r32 [1028, 1029, 1030, 1031, 1032, 1033, 675, 676, 677, 678, 1034, 1035, 1036, 1037, 679, 680, 681, 682, 149, 1038, 1039, 1040, 1041, 683] (by decide +kernel) (by decide +kernel) w h).1
set_option maxRecDepth 20000 in
theorem wL_33 : ∀ w ∈ wsL_law_r33, w ∈ lw_tbl := fun w h => (goodIn_r wsL_law_r33 [684, 685, 686, 691, 692, 687, 688, 689, 690, 1042, 1043, 1044, 1045, 1046, 1047, 693, 694, 695, 696, 1048, 1049, 1050, 1051, 697] (by decide +kernel) (by decide +kernel) w h).1
set_option maxRecDepth 20000 in
theorem wL_34 : ∀ w ∈ wsL_law_r34, w ∈ lw_tbl := fun w h => (goodIn_r wsL_law_r34 [698, 699, 700, 255, 733, 701, 702, 703, 704, 166, 147, 705, 706, 707, 708, 709, 710, 711, 713, 20, 714, 235, 229, 232] (by decide +kernel) (by decide +kernel) w h).1
set_option maxRecDepth 20000 in
theorem wL_35 : ∀ w ∈ wsL_law_r35, w ∈ lw_tbl := fun w h => (goodIn_r wsL_law_r35 [715, 717, 21, 718, 719, 721, 22, 722, 723, 725, 23, 726, 109, 112, 727, 729, 24, 730, 731, 732, 1052, 1053, 1054, 1055] (by decide +kernel) (by decide +kernel) w h).1
set_option maxRecDepth 20000 in
theorem wL_36 : ∀ w ∈ wsL_law_r36, w ∈ lw_tbl := fun w h => (goodIn_r wsL_law_r36 [789, 1056, 1058, 53, 1059, 1060, 1062, 54, 1063, 1064, 1066, 55, 1067, 734, 735, 736, 737, 1068, 1069, 1070, 1071, 738, 739, 740] (by decide +kernel) (by decide +kernel) w h).1
set_option maxRecDepth 20000 in
theorem wL_37 : ∀ w ∈ wsL_law_r37, w ∈ lw_tbl := fun w h => (goodIn_r wsL_law_r37 [741, 153, 742, 743, 744, 745, 1072, 1073, 1074, 1075, 746, 747, 748, 749, 750, 751, 753, 25, 754, 755, 756, 757, 758, 759] (by decide +kernel) (by decide +kernel) w h).1
set_option maxRecDepth 20000 in
theorem wL_38 : ∀ w ∈ wsL_law_r38, w ∈ lw_tbl := fun w h => (goodIn_r wsL_law_r38 [761, 26, 762, 763, 765, 27, 766, 767, 769, 28, 770, 1076, 1077, 1078, 1079, 1080, 1081] (by decide +kernel) (by decide +kernel) w h).1
set_option maxRecDepth 20000 in
theorem inX7 : ∀ w ∈ wsX70, w ∈ lw_tbl := fun w h => (goodIn_r wsX70 [275, 277, 279, 281, 283, 285] (by decide +kernel) (by decide +kernel) w h).1
set_option maxRecDepth 20000 in
theorem inX8 : ∀ w ∈ wsX80, w ∈ lw_tbl := fun w h => (goodIn_r wsX80 [790, 792, 794, 796, 798, 800, 802, 804, 806, 808, 810, 812, 814] (by decide +kernel) (by decide +kernel) w h).1
set_option maxRecDepth 20000 in
theorem inX5 : ∀ w ∈ wsX50, w ∈ lw_tbl := fun w h => (goodIn_r wsX50 [174, 176, 178, 180, 182, 184, 186, 188, 190, 192, 194, 196, 198, 200] (by decide +kernel) (by decide +kernel) w h).1
set_option maxRecDepth 20000 in
theorem inX0 : ∀ w ∈ wsX00, w ∈ lw_tbl := fun w h => (goodIn_r wsX00 [215, 217, 219] (by decide +kernel) (by decide +kernel) w h).1
set_option maxRecDepth 20000 in
theorem inX2 : ∀ w ∈ wsX20, w ∈ lw_tbl := fun w h => (goodIn_r wsX20 [237, 239, 241] (by decide +kernel) (by decide +kernel) w h).1
set_option maxRecDepth 20000 in
theorem inX4 : ∀ w ∈ wsX40, w ∈ lw_tbl := fun w h => (goodIn_r wsX40 [258, 260, 262, 264, 266] (by decide +kernel) (by decide +kernel) w h).1
set_option maxRecDepth 20000 in
theorem inX6 : ∀ w ∈ wsX60, w ∈ lw_tbl := fun w h => (goodIn_r wsX60 [94, 96, 98] (by decide +kernel) (by decide +kernel) w h).1
set_option maxRecDepth 20000 in
theorem inX3 : ∀ w ∈ wsX30, w ∈ lw_tbl := fun w h => (goodIn_r wsX30 [114, 116] (by decide +kernel) (by decide +kernel) w h).1
set_option maxRecDepth 20000 in
theorem inX1 : ∀ w ∈ wsX10, w ∈ lw_tbl := fun w h => (goodIn_r wsX10 [137, 139, 141] (by decide +kernel) (by decide +kernel) w h).1
theorem wsL_law_in : ∀ w ∈ wsL_law, w ∈ lw_tbl := by
  intro w h
  unfold wsL_law at h
  simp only [List.mem_append, List.not_mem_nil, or_false] at h
  rcases h with (((((((((h | h | h | h | h | h | h | h | h | h | h | h | h | h | h | h | h | h | h | h | h | h | h | h | h | h | h | h | h | h | h | h | h | h | h | h | h | h) | h) | h) | h) | h) | h) | h) | h) | h) | h
  · exact wL_1 w h
  · exact wL_2 w h
  · exact wL_3 w h
  · exact wL_4 w h
  · exact wL_5 w h
  · exact wL_6 w h
  · exact wL_7 w h
  · exact wL_8 w h
  · exact wL_9 w h
  · exact wL_10 w h
  · exact wL_11 w h
  · exact wL_12 w h
  · exact wL_13 w h
  · exact wL_14 w h
  · exact wL_15 w h
  · exact wL_16 w h
  · exact wL_17 w h
  · exact wL_18 w h
  · exact wL_19 w h
  · exact wL_20 w h
  · exact wL_21 w h
  · exact wL_22 w h
  · exact wL_23 w h
  · exact wL_24 w h
  · exact wL_25 w h
  · exact wL_26 w h
  · exact wL_27 w h
  · exact wL_28 w h
  · exact wL_29 w h
  · exact wL_30 w h
  · exact wL_31 w h
  · exact wL_32 w h
  · exact wL_33 w h
  · exact wL_34 w h
  · exact wL_35 w h
  · exact wL_36 w h
  · exact wL_37 w h
  · exact wL_38 w h
  · exact inX7 w h
  · exact inX8 w h
  · exact inX5 w h
  · exact inX0 w h
  · exact inX2 w h
  · exact inX4 w h
  · exact inX6 w h
  · exact inX3 w h
  · exact inX1 w h

