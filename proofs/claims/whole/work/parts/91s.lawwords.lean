set_option maxRecDepth 20000 in
theorem ggL_law_X7_undo : GoodIn wsL_law wsX7_undo := goodIn_c _ [(26, 5), (0, 19), (0, 15), (26, 6), (26, 7), (26, 8), (26, 9), (0, 18), (26, 10), (3, 12), (3, 11), (3, 13), (5, 10), (5, 11), (5, 12), (0, 14), (5, 13), (1, 10), (1, 11), (1, 12), (1, 13), (1, 14), (5, 14), (5, 15), (5, 16), (5, 17), (1, 15), (1, 16), (1, 17), (1, 18), (1, 22), (2, 2), (2, 3), (2, 4), (2, 8), (5, 18), (5, 19), (5, 20), (1, 21), (5, 21), (2, 12), (5, 22), (2, 13), (2, 14), (5, 23), (6, 0), (6, 1), (2, 1), (6, 2), (2, 20), (6, 3), (2, 21), (6, 4), (6, 5), (6, 6), (2, 7), (6, 7), (3, 2), (6, 8), (3, 3), (3, 5), (6, 9), (38, 0), (38, 1), (38, 2), (38, 3), (38, 4), (38, 5), (41, 0), (41, 1), (41, 2), (40, 0), (40, 1), (40, 2), (40, 3), (40, 4), (40, 5), (40, 6), (40, 7), (40, 8), (40, 9), (40, 10), (40, 11), (40, 12), (40, 13), (44, 0), (44, 1), (44, 2), (45, 0), (45, 1), (46, 0), (46, 1), (46, 2)] (by decide +kernel) (by decide +kernel)
set_option maxRecDepth 20000 in
theorem gL_law_X7_undo : GoodIn wsL_law (wsV RL 77 RX7 yX7_undo wsX7_undo) := goodIn_app (goodIn_c _ [(26, 2), (26, 3), (26, 4), (0, 2)] (by decide +kernel) (by decide +kernel)) ggL_law_X7_undo
set_option maxRecDepth 20000 in
theorem ggL_law_X8_undo : GoodIn wsL_law wsX8_undo := goodIn_c _ [(26, 14), (8, 11), (4, 10), (4, 11), (39, 0), (39, 1), (39, 2), (39, 3), (39, 4), (39, 5), (39, 6), (39, 7), (39, 8), (39, 9), (39, 10), (39, 11), (39, 12)] (by decide +kernel) (by decide +kernel)
set_option maxRecDepth 20000 in
theorem gL_law_X8_undo : GoodIn wsL_law (wsV RL 80 RX8 yX8_undo wsX8_undo) := goodIn_app (goodIn_c _ [(26, 11), (26, 12), (26, 13), (0, 5)] (by decide +kernel) (by decide +kernel)) ggL_law_X8_undo
set_option maxRecDepth 20000 in
theorem ggL_law_X7_about : GoodIn wsL_law wsX7_about := goodIn_c _ [(26, 18), (0, 15), (26, 19), (26, 20), (26, 21), (26, 22), (25, 11), (26, 23), (9, 17), (9, 18), (9, 19), (0, 2), (9, 20), (5, 0), (13, 1), (13, 2), (13, 3), (0, 14), (13, 4), (1, 11), (38, 0), (38, 1), (38, 2), (38, 3), (38, 4), (38, 5), (40, 0), (40, 1), (40, 2), (40, 3), (40, 4), (40, 5), (40, 6), (40, 7), (40, 8), (40, 9), (40, 10), (40, 11), (40, 12), (40, 13), (44, 0), (44, 1), (44, 2)] (by decide +kernel) (by decide +kernel)
set_option maxRecDepth 20000 in
theorem gL_law_X7_about : GoodIn wsL_law (wsV RL 81 RX7 yX7_about wsX7_about) := goodIn_app (goodIn_c _ [(26, 15), (26, 16), (26, 17), (0, 2)] (by decide +kernel) (by decide +kernel)) ggL_law_X7_about
set_option maxRecDepth 20000 in
theorem ggL_law_X8_about : GoodIn wsL_law wsX8_about := goodIn_c _ [(27, 3), (27, 4), (4, 10), (10, 20), (10, 21), (10, 22), (0, 5), (10, 23), (8, 4), (8, 5), (8, 6), (13, 17), (13, 18), (13, 19), (13, 20), (39, 0), (39, 1), (39, 2), (39, 3), (39, 4), (39, 5), (39, 6), (39, 7), (39, 8), (39, 9), (39, 10), (39, 11), (39, 12)] (by decide +kernel) (by decide +kernel)
set_option maxRecDepth 20000 in
theorem gL_law_X8_about : GoodIn wsL_law (wsV RL 84 RX8 yX8_about wsX8_about) := goodIn_app (goodIn_c _ [(27, 0), (27, 1), (27, 2), (0, 5)] (by decide +kernel) (by decide +kernel)) ggL_law_X8_about
set_option maxRecDepth 20000 in
theorem ggL_law_X7_mass : GoodIn wsL_law wsX7_mass := goodIn_c _ [(27, 8), (0, 15), (27, 9), (12, 21), (12, 22), (12, 23), (0, 2), (13, 0), (9, 17), (9, 18), (9, 19), (9, 20), (5, 0), (13, 1), (13, 2), (13, 3), (0, 14), (13, 4), (1, 11), (27, 10), (21, 22), (21, 23), (2, 1), (22, 0), (2, 21), (2, 20), (38, 0), (38, 1), (38, 2), (38, 3), (38, 4), (38, 5), (40, 0), (40, 1), (40, 2), (40, 3), (40, 4), (40, 5), (40, 6), (40, 7), (40, 8), (40, 9), (40, 10), (40, 11), (40, 12), (40, 13), (45, 0), (45, 1)] (by decide +kernel) (by decide +kernel)
set_option maxRecDepth 20000 in
theorem gL_law_X7_mass : GoodIn wsL_law (wsV RL 85 RX7 yX7_mass wsX7_mass) := goodIn_app (goodIn_c _ [(27, 5), (27, 6), (27, 7), (0, 2)] (by decide +kernel) (by decide +kernel)) ggL_law_X7_mass
set_option maxRecDepth 20000 in
theorem ggL_law_X8_mass : GoodIn wsL_law wsX8_mass := goodIn_c _ [(27, 14), (4, 10), (13, 17), (13, 18), (13, 19), (0, 5), (13, 20), (10, 20), (10, 21), (10, 22), (10, 23), (8, 4), (8, 5), (8, 6), (39, 0), (39, 1), (39, 2), (39, 3), (39, 4), (39, 5), (39, 6), (39, 7), (39, 8), (39, 9), (39, 10), (39, 11), (39, 12)] (by decide +kernel) (by decide +kernel)
set_option maxRecDepth 20000 in
theorem gL_law_X8_mass : GoodIn wsL_law (wsV RL 89 RX8 yX8_mass wsX8_mass) := goodIn_app (goodIn_c _ [(27, 11), (27, 12), (27, 13), (0, 5)] (by decide +kernel) (by decide +kernel)) ggL_law_X8_mass
set_option maxRecDepth 20000 in
theorem ggL_law_X7_guess : GoodIn wsL_law wsX7_guess := goodIn_c _ [(27, 18), (27, 19), (27, 20), (27, 21), (27, 22), (0, 2), (27, 23), (0, 15), (27, 9), (12, 21), (12, 22), (12, 23), (13, 0), (9, 17), (9, 18), (9, 19), (9, 20), (5, 0), (13, 1), (13, 2), (13, 3), (0, 14), (13, 4), (1, 11), (27, 10), (21, 22), (21, 23), (2, 1), (22, 0), (2, 21), (2, 20), (28, 0), (28, 1), (28, 2), (28, 3), (28, 4), (28, 5), (28, 6), (28, 7), (28, 8), (28, 9), (28, 10), (38, 0), (38, 1), (38, 2), (38, 3), (38, 4), (38, 5), (40, 0), (40, 1), (40, 2), (40, 3), (40, 4), (40, 5), (40, 6), (40, 7), (40, 8), (40, 9), (40, 10), (40, 11), (40, 12), (40, 13), (45, 0), (45, 1)] (by decide +kernel) (by decide +kernel)
set_option maxRecDepth 20000 in
theorem gL_law_X7_guess : GoodIn wsL_law (wsV RL 90 RX7 yX7_guess wsX7_guess) := goodIn_app (goodIn_c _ [(27, 15), (27, 16), (27, 17), (0, 2)] (by decide +kernel) (by decide +kernel)) ggL_law_X7_guess
set_option maxRecDepth 20000 in
theorem ggL_law_X8_guess : GoodIn wsL_law wsX8_guess := goodIn_c _ [(28, 14), (8, 21), (28, 15), (28, 16), (28, 17), (0, 5), (28, 18), (4, 10), (13, 17), (13, 18), (13, 19), (13, 20), (10, 20), (10, 21), (10, 22), (10, 23), (8, 4), (8, 5), (8, 6), (28, 19), (28, 20), (28, 21), (28, 22), (28, 23), (29, 0), (29, 1), (29, 2), (29, 3), (29, 4), (29, 5), (29, 6), (29, 7), (29, 8), (29, 9), (29, 10), (39, 0), (39, 1), (39, 2), (39, 3), (39, 4), (39, 5), (39, 6), (39, 7), (39, 8), (39, 9), (39, 10), (39, 11), (39, 12)] (by decide +kernel) (by decide +kernel)
set_option maxRecDepth 20000 in
theorem gL_law_X8_guess : GoodIn wsL_law (wsV RL 94 RX8 yX8_guess wsX8_guess) := goodIn_app (goodIn_c _ [(28, 11), (28, 12), (28, 13), (0, 5)] (by decide +kernel) (by decide +kernel)) ggL_law_X8_guess
set_option maxRecDepth 20000 in
theorem ggL_law_X7_book : GoodIn wsL_law wsX7_book := goodIn_c _ [(29, 14), (0, 15), (29, 15), (9, 17), (9, 18), (9, 19), (0, 2), (9, 20), (5, 0), (29, 16), (15, 7), (15, 8), (27, 10), (21, 22), (21, 23), (2, 1), (22, 0), (2, 21), (2, 20), (38, 0), (38, 1), (38, 2), (38, 3), (38, 4), (38, 5), (40, 0), (40, 1), (40, 2), (40, 3), (40, 4), (40, 5), (40, 6), (40, 7), (40, 8), (40, 9), (40, 10), (40, 11), (40, 12), (40, 13), (45, 0), (45, 1)] (by decide +kernel) (by decide +kernel)
set_option maxRecDepth 20000 in
theorem gL_law_X7_book : GoodIn wsL_law (wsV RL 95 RX7 yX7_book wsX7_book) := goodIn_app (goodIn_c _ [(29, 11), (29, 12), (29, 13), (0, 2)] (by decide +kernel) (by decide +kernel)) ggL_law_X7_book
set_option maxRecDepth 20000 in
theorem ggL_law_X8_book : GoodIn wsL_law wsX8_book := goodIn_c _ [(29, 20), (4, 10), (10, 20), (10, 21), (10, 22), (0, 5), (10, 23), (8, 4), (8, 5), (8, 6), (39, 0), (39, 1), (39, 2), (39, 3), (39, 4), (39, 5), (39, 6), (39, 7), (39, 8), (39, 9), (39, 10), (39, 11), (39, 12)] (by decide +kernel) (by decide +kernel)
set_option maxRecDepth 20000 in
theorem gL_law_X8_book : GoodIn wsL_law (wsV RL 99 RX8 yX8_book wsX8_book) := goodIn_app (goodIn_c _ [(29, 17), (29, 18), (29, 19), (0, 5)] (by decide +kernel) (by decide +kernel)) ggL_law_X8_book
set_option maxRecDepth 20000 in
theorem ggL_law_X7_letter : GoodIn wsL_law wsX7_letter := goodIn_c _ [(30, 0), (0, 15), (11, 12), (27, 19), (22, 15), (21, 12), (30, 1), (21, 13), (11, 22), (11, 23), (2, 7), (12, 0), (3, 2), (27, 10), (21, 22), (21, 23), (2, 1), (22, 0), (2, 21), (2, 20), (38, 0), (38, 1), (38, 2), (38, 3), (38, 4), (38, 5), (40, 0), (40, 1), (40, 2), (40, 3), (40, 4), (40, 5), (40, 6), (40, 7), (40, 8), (40, 9), (40, 10), (40, 11), (40, 12), (40, 13), (46, 0), (46, 1), (46, 2), (45, 0), (45, 1)] (by decide +kernel) (by decide +kernel)
set_option maxRecDepth 20000 in
theorem gL_law_X7_letter : GoodIn wsL_law (wsV RL 100 RX7 yX7_letter wsX7_letter) := goodIn_app (goodIn_c _ [(29, 21), (29, 22), (29, 23), (0, 2)] (by decide +kernel) (by decide +kernel)) ggL_law_X7_letter
set_option maxRecDepth 20000 in
theorem ggL_law_X8_letter : GoodIn wsL_law wsX8_letter := goodIn_c _ [(30, 5), (30, 6), (4, 10), (8, 21), (22, 6), (22, 7), (22, 8), (0, 5), (22, 9), (22, 10), (8, 4), (8, 5), (8, 6), (12, 13), (12, 14), (12, 15), (12, 16), (39, 0), (39, 1), (39, 2), (39, 3), (39, 4), (39, 5), (39, 6), (39, 7), (39, 8), (39, 9), (39, 10), (39, 11), (39, 12)] (by decide +kernel) (by decide +kernel)
set_option maxRecDepth 20000 in
theorem gL_law_X8_letter : GoodIn wsL_law (wsV RL 104 RX8 yX8_letter wsX8_letter) := goodIn_app (goodIn_c _ [(30, 2), (30, 3), (30, 4), (0, 5)] (by decide +kernel) (by decide +kernel)) ggL_law_X8_letter
set_option maxRecDepth 20000 in
theorem ggL_law_X7_owed : GoodIn wsL_law wsX7_owed := goodIn_c _ [(30, 10), (0, 15), (30, 11), (30, 12), (30, 13), (30, 14), (2, 1), (30, 15), (2, 21), (2, 20), (38, 0), (38, 1), (38, 2), (38, 3), (38, 4), (38, 5), (40, 0), (40, 1), (40, 2), (40, 3), (40, 4), (40, 5), (40, 6), (40, 7), (40, 8), (40, 9), (40, 10), (40, 11), (40, 12), (40, 13), (45, 0), (45, 1)] (by decide +kernel) (by decide +kernel)
set_option maxRecDepth 20000 in
theorem gL_law_X7_owed : GoodIn wsL_law (wsV RL 105 RX7 yX7_owed wsX7_owed) := goodIn_app (goodIn_c _ [(30, 7), (30, 8), (30, 9), (0, 2)] (by decide +kernel) (by decide +kernel)) ggL_law_X7_owed
set_option maxRecDepth 20000 in
theorem ggL_law_X8_owed : GoodIn wsL_law wsX8_owed := goodIn_c _ [(30, 19), (4, 10), (39, 0), (39, 1), (39, 2), (39, 3), (39, 4), (39, 5), (39, 6), (39, 7), (39, 8), (39, 9), (39, 10), (39, 11), (39, 12)] (by decide +kernel) (by decide +kernel)
set_option maxRecDepth 20000 in
theorem gL_law_X8_owed : GoodIn wsL_law (wsV RL 109 RX8 yX8_owed wsX8_owed) := goodIn_app (goodIn_c _ [(30, 16), (30, 17), (30, 18), (0, 5)] (by decide +kernel) (by decide +kernel)) ggL_law_X8_owed
set_option maxRecDepth 20000 in
theorem ggL_law_X7_all : GoodIn wsL_law wsX7_all := goodIn_c _ [(30, 23), (0, 15), (27, 9), (11, 12), (30, 1), (30, 11), (30, 12), (30, 13), (30, 14), (2, 1), (30, 15), (2, 21), (2, 20), (38, 0), (38, 1), (38, 2), (38, 3), (38, 4), (38, 5), (40, 0), (40, 1), (40, 2), (40, 3), (40, 4), (40, 5), (40, 6), (40, 7), (40, 8), (40, 9), (40, 10), (40, 11), (40, 12), (40, 13), (46, 0), (46, 1), (46, 2), (45, 0), (45, 1)] (by decide +kernel) (by decide +kernel)
set_option maxRecDepth 20000 in
theorem gL_law_X7_all : GoodIn wsL_law (wsV RL 110 RX7 yX7_all wsX7_all) := goodIn_app (goodIn_c _ [(30, 20), (30, 21), (30, 22), (0, 2)] (by decide +kernel) (by decide +kernel)) ggL_law_X7_all
set_option maxRecDepth 20000 in
theorem ggL_law_X8_all : GoodIn wsL_law wsX8_all := goodIn_c _ [(31, 3), (4, 10), (31, 4), (30, 17), (30, 18), (0, 5), (30, 19), (31, 5), (27, 12), (27, 13), (27, 14), (13, 17), (13, 18), (13, 19), (13, 20), (10, 20), (10, 21), (10, 22), (10, 23), (8, 4), (8, 5), (8, 6), (12, 13), (12, 14), (12, 15), (12, 16), (39, 0), (39, 1), (39, 2), (39, 3), (39, 4), (39, 5), (39, 6), (39, 7), (39, 8), (39, 9), (39, 10), (39, 11), (39, 12)] (by decide +kernel) (by decide +kernel)
set_option maxRecDepth 20000 in
theorem gL_law_X8_all : GoodIn wsL_law (wsV RL 113 RX8 yX8_all wsX8_all) := goodIn_app (goodIn_c _ [(31, 0), (31, 1), (31, 2), (0, 5)] (by decide +kernel) (by decide +kernel)) ggL_law_X8_all
