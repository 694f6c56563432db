set_option maxRecDepth 20000 in
theorem ggL_law_X7_undo : GoodIn wsL_law wsX7_undo := goodIn_r _ [629, 19, 15, 630, 631, 632, 633, 18, 634, 84, 83, 85, 130, 131, 132, 14, 133, 34, 35, 36, 37, 38, 134, 135, 136, 137, 39, 40, 41, 42, 46, 50, 51, 52, 56, 138, 139, 140, 45, 141, 60, 142, 61, 62, 143, 144, 145, 49, 146, 68, 147, 69, 148, 149, 150, 55, 151, 74, 152, 75, 77, 153, 905, 906, 907, 908, 909, 910, 938, 939, 940, 924, 925, 926, 927, 928, 929, 930, 931, 932, 933, 934, 935, 936, 937, 949, 950, 951, 952, 953, 954, 955, 956] (by decide +kernel) (by decide +kernel)
set_option maxRecDepth 20000 in
theorem gL_law_X7_undo : GoodIn wsL_law (wsV RL 77 RX7 yX7_undo wsX7_undo) := goodIn_app (goodIn_of _ (by decide +kernel)) ggL_law_X7_undo
set_option maxRecDepth 20000 in
theorem ggL_law_X8_undo : GoodIn wsL_law wsX8_undo := goodIn_r _ [638, 203, 106, 107, 911, 912, 913, 914, 915, 916, 917, 918, 919, 920, 921, 922, 923] (by decide +kernel) (by decide +kernel)
set_option maxRecDepth 20000 in
theorem gL_law_X8_undo : GoodIn wsL_law (wsV RL 80 RX8 yX8_undo wsX8_undo) := goodIn_app (goodIn_of _ (by decide +kernel)) ggL_law_X8_undo
set_option maxRecDepth 20000 in
theorem ggL_law_X7_about : GoodIn wsL_law wsX7_about := goodIn_r _ [642, 15, 643, 644, 645, 646, 611, 647, 233, 234, 235, 2, 236, 120, 313, 314, 315, 14, 316, 35, 905, 906, 907, 908, 909, 910, 924, 925, 926, 927, 928, 929, 930, 931, 932, 933, 934, 935, 936, 937, 949, 950, 951] (by decide +kernel) (by decide +kernel)
set_option maxRecDepth 20000 in
theorem gL_law_X7_about : GoodIn wsL_law (wsV RL 81 RX7 yX7_about wsX7_about) := goodIn_app (goodIn_of _ (by decide +kernel)) ggL_law_X7_about
set_option maxRecDepth 20000 in
theorem ggL_law_X8_about : GoodIn wsL_law wsX8_about := goodIn_r _ [651, 652, 106, 260, 261, 262, 5, 263, 196, 197, 198, 329, 330, 331, 332, 911, 912, 913, 914, 915, 916, 917, 918, 919, 920, 921, 922, 923] (by decide +kernel) (by decide +kernel)
set_option maxRecDepth 20000 in
theorem gL_law_X8_about : GoodIn wsL_law (wsV RL 84 RX8 yX8_about wsX8_about) := goodIn_app (goodIn_of _ (by decide +kernel)) ggL_law_X8_about
set_option maxRecDepth 20000 in
theorem ggL_law_X7_mass : GoodIn wsL_law wsX7_mass := goodIn_r _ [656, 15, 657, 309, 310, 311, 2, 312, 233, 234, 235, 236, 120, 313, 314, 315, 14, 316, 35, 658, 526, 527, 49, 528, 69, 68, 905, 906, 907, 908, 909, 910, 924, 925, 926, 927, 928, 929, 930, 931, 932, 933, 934, 935, 936, 937, 952, 953] (by decide +kernel) (by decide +kernel)
set_option maxRecDepth 20000 in
theorem gL_law_X7_mass : GoodIn wsL_law (wsV RL 85 RX7 yX7_mass wsX7_mass) := goodIn_app (goodIn_of _ (by decide +kernel)) ggL_law_X7_mass
set_option maxRecDepth 20000 in
theorem ggL_law_X8_mass : GoodIn wsL_law wsX8_mass := goodIn_r _ [662, 106, 329, 330, 331, 5, 332, 260, 261, 262, 263, 196, 197, 198, 911, 912, 913, 914, 915, 916, 917, 918, 919, 920, 921, 922, 923] (by decide +kernel) (by decide +kernel)
set_option maxRecDepth 20000 in
theorem gL_law_X8_mass : GoodIn wsL_law (wsV RL 89 RX8 yX8_mass wsX8_mass) := goodIn_app (goodIn_of _ (by decide +kernel)) ggL_law_X8_mass
set_option maxRecDepth 20000 in
theorem ggL_law_X7_guess : GoodIn wsL_law wsX7_guess := goodIn_r _ [666, 667, 668, 669, 670, 2, 671, 15, 657, 309, 310, 311, 312, 233, 234, 235, 236, 120, 313, 314, 315, 14, 316, 35, 658, 526, 527, 49, 528, 69, 68, 672, 673, 674, 675, 676, 677, 678, 679, 680, 681, 682, 905, 906, 907, 908, 909, 910, 924, 925, 926, 927, 928, 929, 930, 931, 932, 933, 934, 935, 936, 937, 952, 953] (by decide +kernel) (by decide +kernel)
set_option maxRecDepth 20000 in
theorem gL_law_X7_guess : GoodIn wsL_law (wsV RL 90 RX7 yX7_guess wsX7_guess) := goodIn_app (goodIn_of _ (by decide +kernel)) ggL_law_X7_guess
set_option maxRecDepth 20000 in
theorem ggL_law_X8_guess : GoodIn wsL_law wsX8_guess := goodIn_r _ [686, 213, 687, 688, 689, 5, 690, 106, 329, 330, 331, 332, 260, 261, 262, 263, 196, 197, 198, 691, 692, 693, 694, 695, 696, 697, 698, 699, 700, 701, 702, 703, 704, 705, 706, 911, 912, 913, 914, 915, 916, 917, 918, 919, 920, 921, 922, 923] (by decide +kernel) (by decide +kernel)
set_option maxRecDepth 20000 in
theorem gL_law_X8_guess : GoodIn wsL_law (wsV RL 94 RX8 yX8_guess wsX8_guess) := goodIn_app (goodIn_of _ (by decide +kernel)) ggL_law_X8_guess
set_option maxRecDepth 20000 in
theorem ggL_law_X7_book : GoodIn wsL_law wsX7_book := goodIn_r _ [710, 15, 711, 233, 234, 235, 2, 236, 120, 712, 367, 368, 658, 526, 527, 49, 528, 69, 68, 905, 906, 907, 908, 909, 910, 924, 925, 926, 927, 928, 929, 930, 931, 932, 933, 934, 935, 936, 937, 952, 953] (by decide +kernel) (by decide +kernel)
set_option maxRecDepth 20000 in
theorem gL_law_X7_book : GoodIn wsL_law (wsV RL 95 RX7 yX7_book wsX7_book) := goodIn_app (goodIn_of _ (by decide +kernel)) ggL_law_X7_book
set_option maxRecDepth 20000 in
theorem ggL_law_X8_book : GoodIn wsL_law wsX8_book := goodIn_r _ [716, 106, 260, 261, 262, 5, 263, 196, 197, 198, 911, 912, 913, 914, 915, 916, 917, 918, 919, 920, 921, 922, 923] (by decide +kernel) (by decide +kernel)
set_option maxRecDepth 20000 in
theorem gL_law_X8_book : GoodIn wsL_law (wsV RL 99 RX8 yX8_book wsX8_book) := goodIn_app (goodIn_of _ (by decide +kernel)) ggL_law_X8_book
set_option maxRecDepth 20000 in
theorem ggL_law_X7_letter : GoodIn wsL_law wsX7_letter := goodIn_r _ [720, 15, 276, 667, 543, 516, 721, 517, 286, 287, 55, 288, 74, 658, 526, 527, 49, 528, 69, 68, 905, 906, 907, 908, 909, 910, 924, 925, 926, 927, 928, 929, 930, 931, 932, 933, 934, 935, 936, 937, 954, 955, 956, 952, 953] (by decide +kernel) (by decide +kernel)
set_option maxRecDepth 20000 in
theorem gL_law_X7_letter : GoodIn wsL_law (wsV RL 100 RX7 yX7_letter wsX7_letter) := goodIn_app (goodIn_of _ (by decide +kernel)) ggL_law_X7_letter
set_option maxRecDepth 20000 in
theorem ggL_law_X8_letter : GoodIn wsL_law wsX8_letter := goodIn_r _ [725, 726, 106, 213, 534, 535, 536, 5, 537, 538, 196, 197, 198, 301, 302, 303, 304, 911, 912, 913, 914, 915, 916, 917, 918, 919, 920, 921, 922, 923] (by decide +kernel) (by decide +kernel)
set_option maxRecDepth 20000 in
theorem gL_law_X8_letter : GoodIn wsL_law (wsV RL 104 RX8 yX8_letter wsX8_letter) := goodIn_app (goodIn_of _ (by decide +kernel)) ggL_law_X8_letter
set_option maxRecDepth 20000 in
theorem ggL_law_X7_owed : GoodIn wsL_law wsX7_owed := goodIn_r _ [730, 15, 731, 732, 733, 734, 49, 735, 69, 68, 905, 906, 907, 908, 909, 910, 924, 925, 926, 927, 928, 929, 930, 931, 932, 933, 934, 935, 936, 937, 952, 953] (by decide +kernel) (by decide +kernel)
set_option maxRecDepth 20000 in
theorem gL_law_X7_owed : GoodIn wsL_law (wsV RL 105 RX7 yX7_owed wsX7_owed) := goodIn_app (goodIn_of _ (by decide +kernel)) ggL_law_X7_owed
set_option maxRecDepth 20000 in
theorem ggL_law_X8_owed : GoodIn wsL_law wsX8_owed := goodIn_r _ [739, 106, 911, 912, 913, 914, 915, 916, 917, 918, 919, 920, 921, 922, 923] (by decide +kernel) (by decide +kernel)
set_option maxRecDepth 20000 in
theorem gL_law_X8_owed : GoodIn wsL_law (wsV RL 109 RX8 yX8_owed wsX8_owed) := goodIn_app (goodIn_of _ (by decide +kernel)) ggL_law_X8_owed
set_option maxRecDepth 20000 in
theorem ggL_law_X7_all : GoodIn wsL_law wsX7_all := goodIn_r _ [743, 15, 657, 276, 721, 731, 732, 733, 734, 49, 735, 69, 68, 905, 906, 907, 908, 909, 910, 924, 925, 926, 927, 928, 929, 930, 931, 932, 933, 934, 935, 936, 937, 954, 955, 956, 952, 953] (by decide +kernel) (by decide +kernel)
set_option maxRecDepth 20000 in
theorem gL_law_X7_all : GoodIn wsL_law (wsV RL 110 RX7 yX7_all wsX7_all) := goodIn_app (goodIn_of _ (by decide +kernel)) ggL_law_X7_all
set_option maxRecDepth 20000 in
theorem ggL_law_X8_all : GoodIn wsL_law wsX8_all := goodIn_r _ [747, 106, 748, 737, 738, 5, 739, 749, 660, 661, 662, 329, 330, 331, 332, 260, 261, 262, 263, 196, 197, 198, 301, 302, 303, 304, 911, 912, 913, 914, 915, 916, 917, 918, 919, 920, 921, 922, 923] (by decide +kernel) (by decide +kernel)
set_option maxRecDepth 20000 in
theorem gL_law_X8_all : GoodIn wsL_law (wsV RL 113 RX8 yX8_all wsX8_all) := goodIn_app (goodIn_of _ (by decide +kernel)) ggL_law_X8_all
