set_option maxRecDepth 20000 in
theorem ggL_law_X7_far : GoodIn wsL_law wsX7_far := goodIn_r _ [753, 15, 120, 667, 668, 669, 670, 2, 671, 657, 309, 310, 311, 312, 233, 234, 235, 236, 313, 314, 315, 14, 316, 35, 658, 526, 527, 49, 528, 69, 68, 672, 673, 674, 675, 676, 677, 678, 679, 680, 681, 682, 905, 906, 907, 908, 909, 910, 924, 925, 926, 927, 928, 929, 930, 931, 932, 933, 934, 935, 936, 937, 952, 953] (by decide +kernel) (by decide +kernel)
set_option maxRecDepth 20000 in
theorem gL_law_X7_far : GoodIn wsL_law (wsV RL 114 RX7 yX7_far wsX7_far) := goodIn_app (goodIn_of _ (by decide +kernel)) ggL_law_X7_far
set_option maxRecDepth 20000 in
theorem ggL_law_X8_far : GoodIn wsL_law wsX8_far := goodIn_r _ [757, 213, 687, 688, 689, 5, 690, 106, 329, 330, 331, 332, 260, 261, 262, 263, 196, 197, 198, 691, 692, 693, 694, 695, 696, 697, 698, 699, 700, 701, 702, 703, 704, 705, 706, 911, 912, 913, 914, 915, 916, 917, 918, 919, 920, 921, 922, 923] (by decide +kernel) (by decide +kernel)
set_option maxRecDepth 20000 in
theorem gL_law_X8_far : GoodIn wsL_law (wsV RL 118 RX8 yX8_far wsX8_far) := goodIn_app (goodIn_of _ (by decide +kernel)) ggL_law_X8_far
set_option maxRecDepth 20000 in
theorem ggL_law_X7_unsure : GoodIn wsL_law wsX7_unsure := goodIn_r _ [761, 15, 120, 762, 646, 313, 314, 315, 14, 316, 35, 905, 906, 907, 908, 909, 910, 924, 925, 926, 927, 928, 929, 930, 931, 932, 933, 934, 935, 936, 937] (by decide +kernel) (by decide +kernel)
set_option maxRecDepth 20000 in
theorem gL_law_X7_unsure : GoodIn wsL_law (wsV RL 119 RX7 yX7_unsure wsX7_unsure) := goodIn_app (goodIn_of _ (by decide +kernel)) ggL_law_X7_unsure
set_option maxRecDepth 20000 in
theorem ggL_law_X8_unsure : GoodIn wsL_law wsX8_unsure := goodIn_r _ [766, 106, 213, 329, 330, 331, 5, 332, 260, 261, 262, 263, 196, 197, 198, 911, 912, 913, 914, 915, 916, 917, 918, 919, 920, 921, 922, 923] (by decide +kernel) (by decide +kernel)
set_option maxRecDepth 20000 in
theorem gL_law_X8_unsure : GoodIn wsL_law (wsV RL 122 RX8 yX8_unsure wsX8_unsure) := goodIn_app (goodIn_of _ (by decide +kernel)) ggL_law_X8_unsure
set_option maxRecDepth 20000 in
theorem ggL_law_X7_many : GoodIn wsL_law wsX7_many := goodIn_r _ [770, 667, 15, 611, 647, 771, 772, 309, 310, 311, 2, 312, 233, 234, 235, 236, 120, 313, 314, 315, 14, 316, 35, 676, 677, 678, 679, 680, 681, 682, 773, 774, 775, 45, 776, 61, 905, 906, 907, 908, 909, 910, 924, 925, 926, 927, 928, 929, 930, 931, 932, 933, 934, 935, 936, 937, 949, 950, 951] (by decide +kernel) (by decide +kernel)
set_option maxRecDepth 20000 in
theorem gL_law_X7_many : GoodIn wsL_law (wsV RL 123 RX7 yX7_many wsX7_many) := goodIn_app (goodIn_of _ (by decide +kernel)) ggL_law_X7_many
set_option maxRecDepth 20000 in
theorem ggL_law_X8_many : GoodIn wsL_law wsX8_many := goodIn_r _ [780, 213, 106, 781, 782, 329, 330, 331, 5, 332, 260, 261, 262, 263, 196, 197, 198, 695, 696, 697, 698, 699, 700, 701, 702, 703, 704, 705, 706, 911, 912, 913, 914, 915, 916, 917, 918, 919, 920, 921, 922, 923] (by decide +kernel) (by decide +kernel)
set_option maxRecDepth 20000 in
theorem gL_law_X8_many : GoodIn wsL_law (wsV RL 126 RX8 yX8_many wsX8_many) := goodIn_app (goodIn_of _ (by decide +kernel)) ggL_law_X8_many
set_option maxRecDepth 20000 in
theorem ggL_law_X7_ticket : GoodIn wsL_law wsX7_ticket := goodIn_r _ [786, 15, 611, 647, 233, 234, 235, 2, 236, 120, 313, 314, 315, 14, 316, 35, 773, 774, 775, 45, 776, 61, 905, 906, 907, 908, 909, 910, 924, 925, 926, 927, 928, 929, 930, 931, 932, 933, 934, 935, 936, 937, 949, 950, 951] (by decide +kernel) (by decide +kernel)
set_option maxRecDepth 20000 in
theorem gL_law_X7_ticket : GoodIn wsL_law (wsV RL 127 RX7 yX7_ticket wsX7_ticket) := goodIn_app (goodIn_of _ (by decide +kernel)) ggL_law_X7_ticket
set_option maxRecDepth 20000 in
theorem ggL_law_X8_ticket : GoodIn wsL_law wsX8_ticket := goodIn_r _ [790, 106, 260, 261, 262, 5, 263, 196, 197, 198, 329, 330, 331, 332, 911, 912, 913, 914, 915, 916, 917, 918, 919, 920, 921, 922, 923] (by decide +kernel) (by decide +kernel)
set_option maxRecDepth 20000 in
theorem gL_law_X8_ticket : GoodIn wsL_law (wsV RL 130 RX8 yX8_ticket wsX8_ticket) := goodIn_app (goodIn_of _ (by decide +kernel)) ggL_law_X8_ticket
set_option maxRecDepth 20000 in
theorem ggL_law_X7_fewest : GoodIn wsL_law wsX7_fewest := goodIn_r _ [794, 23, 15, 27, 795, 29, 796, 135, 136, 137, 30, 566, 567, 568, 22, 569, 91, 570, 571, 238, 239, 14, 240, 42, 572, 314, 315, 316, 35, 573, 574, 575, 576, 89, 90, 797, 798, 799, 26, 800, 100, 96, 801, 99, 802, 97, 803, 144, 145, 49, 146, 68, 147, 69, 804, 805, 806, 807, 808, 809, 810, 811, 812, 813, 98, 814, 815, 816, 817, 818, 819, 820, 821, 822, 823, 824, 825, 826, 827, 828, 829, 830, 831, 832, 833, 834, 440, 441, 442, 413, 160, 161, 162, 835, 905, 906, 907, 908, 909, 910, 944, 945, 946, 947, 948, 941, 942, 943, 924, 925, 926, 927, 928, 929, 930, 931, 932, 933, 934, 935, 936, 937, 952, 953] (by decide +kernel) (by decide +kernel)
set_option maxRecDepth 20000 in
theorem gL_law_X7_fewest : GoodIn wsL_law (wsV RL 131 RX7 yX7_fewest wsX7_fewest) := goodIn_app (goodIn_of _ (by decide +kernel)) ggL_law_X7_fewest
set_option maxRecDepth 20000 in
theorem ggL_law_X8_fewest : GoodIn wsL_law wsX8_fewest := goodIn_r _ [839, 726, 112, 106, 113, 840, 115, 114, 196, 197, 5, 198, 590, 591, 592, 593, 589, 110, 111, 264, 265, 266, 267, 329, 330, 331, 332, 260, 261, 262, 263, 841, 842, 843, 844, 845, 846, 847, 848, 849, 850, 851, 852, 911, 912, 913, 914, 915, 916, 917, 918, 919, 920, 921, 922, 923] (by decide +kernel) (by decide +kernel)
set_option maxRecDepth 20000 in
theorem gL_law_X8_fewest : GoodIn wsL_law (wsV RL 134 RX8 yX8_fewest wsX8_fewest) := goodIn_app (goodIn_of _ (by decide +kernel)) ggL_law_X8_fewest
set_option maxRecDepth 20000 in
theorem ggL_law_X7_plan : GoodIn wsL_law wsX7_plan := goodIn_r _ [856, 30, 29, 905, 906, 907, 908, 909, 910] (by decide +kernel) (by decide +kernel)
set_option maxRecDepth 20000 in
theorem gL_law_X7_plan : GoodIn wsL_law (wsV RL 135 RX7 yX7_plan wsX7_plan) := goodIn_app (goodIn_of _ (by decide +kernel)) ggL_law_X7_plan
set_option maxRecDepth 20000 in
theorem ggL_law_X8_plan : GoodIn wsL_law wsX8_plan := goodIn_r _ [860, 840, 115, 196, 197, 5, 198, 911, 912, 913, 914, 915, 916, 917, 918, 919, 920, 921, 922, 923] (by decide +kernel) (by decide +kernel)
set_option maxRecDepth 20000 in
theorem gL_law_X8_plan : GoodIn wsL_law (wsV RL 138 RX8 yX8_plan wsX8_plan) := goodIn_app (goodIn_of _ (by decide +kernel)) ggL_law_X8_plan
set_option maxRecDepth 20000 in
theorem ggL_law_X7_count : GoodIn wsL_law wsX7_count := goodIn_r _ [864, 15, 120, 276, 865, 19, 630, 556, 614, 615, 616, 14, 617, 35, 249, 250, 251, 252, 253, 254, 255, 245, 246, 247, 248, 34, 42, 866, 867, 868, 55, 869, 285, 286, 287, 288, 74, 905, 906, 907, 908, 909, 910, 924, 925, 926, 927, 928, 929, 930, 931, 932, 933, 934, 935, 936, 937, 938, 939, 940, 954, 955, 956] (by decide +kernel) (by decide +kernel)
set_option maxRecDepth 20000 in
theorem gL_law_X7_count : GoodIn wsL_law (wsV RL 139 RX7 yX7_count wsX7_count) := goodIn_app (goodIn_of _ (by decide +kernel)) ggL_law_X7_count
set_option maxRecDepth 20000 in
theorem ggL_law_X8_count : GoodIn wsL_law wsX8_count := goodIn_r _ [873, 106, 203, 622, 623, 624, 5, 625, 329, 330, 331, 332, 260, 261, 262, 263, 196, 197, 198, 268, 269, 270, 271, 264, 265, 266, 267, 301, 302, 303, 304, 911, 912, 913, 914, 915, 916, 917, 918, 919, 920, 921, 922, 923] (by decide +kernel) (by decide +kernel)
set_option maxRecDepth 20000 in
theorem gL_law_X8_count : GoodIn wsL_law (wsV RL 142 RX8 yX8_count wsX8_count) := goodIn_app (goodIn_of _ (by decide +kernel)) ggL_law_X8_count
set_option maxRecDepth 20000 in
theorem ggL_law_X7_digest : GoodIn wsL_law wsX7_digest := goodIn_r _ [877, 878, 15, 120, 731, 556, 879, 880, 881, 2, 882, 643, 657, 644, 645, 646, 611, 647, 313, 314, 315, 14, 316, 35, 883, 884, 885, 886, 658, 526, 527, 49, 528, 69, 68, 773, 774, 775, 45, 776, 61, 887, 888, 889, 890, 237, 238, 239, 240, 42, 891, 892, 893, 894, 711, 712, 367, 368, 895, 896, 897, 898, 276, 543, 516, 721, 517, 286, 287, 55, 288, 74, 732, 733, 734, 735, 905, 906, 907, 908, 909, 910, 924, 925, 926, 927, 928, 929, 930, 931, 932, 933, 934, 935, 936, 937, 949, 950, 951, 952, 953, 954, 955, 956] (by decide +kernel) (by decide +kernel)
set_option maxRecDepth 20000 in
theorem gL_law_X7_digest : GoodIn wsL_law (wsV RL 143 RX7 yX7_digest wsX7_digest) := goodIn_app (goodIn_of _ (by decide +kernel)) ggL_law_X7_digest
set_option maxRecDepth 20000 in
theorem ggL_law_X8_digest : GoodIn wsL_law wsX8_digest := goodIn_r _ [902, 903, 106, 904, 329, 330, 331, 5, 332, 260, 261, 262, 263, 196, 197, 198, 264, 265, 266, 267, 301, 302, 303, 304, 748, 737, 738, 739, 911, 912, 913, 914, 915, 916, 917, 918, 919, 920, 921, 922, 923] (by decide +kernel) (by decide +kernel)
set_option maxRecDepth 20000 in
theorem gL_law_X8_digest : GoodIn wsL_law (wsV RL 146 RX8 yX8_digest wsX8_digest) := goodIn_app (goodIn_of _ (by decide +kernel)) ggL_law_X8_digest
