set_option maxRecDepth 20000 in
set_option maxRecDepth 20000 in
theorem gL_law_X7_init : GoodIn wsL_law (wsX7_init) := by sorry
set_option maxRecDepth 20000 in
set_option maxRecDepth 20000 in
theorem gL_law_X8_init : GoodIn wsL_law (wsX8_init) := by sorry
set_option maxRecDepth 20000 in
set_option maxRecDepth 20000 in
theorem gL_law_X7_come : GoodIn wsL_law (wsV RL 13 RX7 yX7_come wsX7_come) := by sorry
set_option maxRecDepth 20000 in
set_option maxRecDepth 20000 in
theorem gL_law_X8_come : GoodIn wsL_law (wsV RL 17 RX8 yX8_come wsX8_come) := by sorry
set_option maxRecDepth 20000 in
set_option maxRecDepth 20000 in
theorem gL_law_X7_line : GoodIn wsL_law (wsV RL 18 RX7 yX7_line wsX7_line) := by sorry
set_option maxRecDepth 20000 in
set_option maxRecDepth 20000 in
theorem gL_law_X8_line : GoodIn wsL_law (wsV RL 22 RX8 yX8_line wsX8_line) := by sorry
set_option maxRecDepth 20000 in
set_option maxRecDepth 20000 in
theorem gL_law_X7_cut : GoodIn wsL_law (wsV RL 23 RX7 yX7_cut wsX7_cut) := by sorry
set_option maxRecDepth 20000 in
set_option maxRecDepth 20000 in
theorem gL_law_X8_cut : GoodIn wsL_law (wsV RL 26 RX8 yX8_cut wsX8_cut) := by sorry
set_option maxRecDepth 20000 in
set_option maxRecDepth 20000 in
theorem gL_law_X7_set : GoodIn wsL_law (wsV RL 27 RX7 yX7_set wsX7_set) := by sorry
set_option maxRecDepth 20000 in
set_option maxRecDepth 20000 in
theorem gL_law_X8_set : GoodIn wsL_law (wsV RL 30 RX8 yX8_set wsX8_set) := by sorry
set_option maxRecDepth 20000 in
set_option maxRecDepth 20000 in
theorem gL_law_X7_back : GoodIn wsL_law (wsV RL 31 RX7 yX7_back wsX7_back) := by sorry
set_option maxRecDepth 20000 in
set_option maxRecDepth 20000 in
theorem gL_law_X8_back : GoodIn wsL_law (wsV RL 34 RX8 yX8_back wsX8_back) := by sorry
set_option maxRecDepth 20000 in
set_option maxRecDepth 20000 in
theorem gL_law_X7_fall : GoodIn wsL_law (wsV RL 35 RX7 yX7_fall wsX7_fall) := by sorry
set_option maxRecDepth 20000 in
set_option maxRecDepth 20000 in
theorem gL_law_X8_fall : GoodIn wsL_law (wsV RL 38 RX8 yX8_fall wsX8_fall) := by sorry
set_option maxRecDepth 20000 in
set_option maxRecDepth 20000 in
theorem gL_law_X7_leave : GoodIn wsL_law (wsV RL 39 RX7 yX7_leave wsX7_leave) := by sorry
set_option maxRecDepth 20000 in
set_option maxRecDepth 20000 in
theorem gL_law_X8_leave : GoodIn wsL_law (wsV RL 42 RX8 yX8_leave wsX8_leave) := by sorry
set_option maxRecDepth 20000 in
set_option maxRecDepth 20000 in
theorem gL_law_X7_talk : GoodIn wsL_law (wsV RL 43 RX7 yX7_talk wsX7_talk) := by sorry
set_option maxRecDepth 20000 in
set_option maxRecDepth 20000 in
theorem gL_law_X8_talk : GoodIn wsL_law (wsV RL 47 RX8 yX8_talk wsX8_talk) := by sorry
set_option maxRecDepth 20000 in
set_option maxRecDepth 20000 in
theorem gL_law_X7_send : GoodIn wsL_law (wsV RL 48 RX7 yX7_send wsX7_send) := by sorry
set_option maxRecDepth 20000 in
set_option maxRecDepth 20000 in
theorem gL_law_X8_send : GoodIn wsL_law (wsV RL 51 RX8 yX8_send wsX8_send) := by sorry
set_option maxRecDepth 20000 in
set_option maxRecDepth 20000 in
theorem gL_law_X7_bring : GoodIn wsL_law (wsV RL 52 RX7 yX7_bring wsX7_bring) := by sorry
set_option maxRecDepth 20000 in
set_option maxRecDepth 20000 in
theorem gL_law_X8_bring : GoodIn wsL_law (wsV RL 55 RX8 yX8_bring wsX8_bring) := by sorry
set_option maxRecDepth 20000 in
set_option maxRecDepth 20000 in
theorem gL_law_X7_lose : GoodIn wsL_law (wsV RL 56 RX7 yX7_lose wsX7_lose) := by sorry
set_option maxRecDepth 20000 in
set_option maxRecDepth 20000 in
theorem gL_law_X8_lose : GoodIn wsL_law (wsV RL 59 RX8 yX8_lose wsX8_lose) := by sorry
set_option maxRecDepth 20000 in
set_option maxRecDepth 20000 in
theorem gL_law_X7_seed : GoodIn wsL_law (wsV RL 60 RX7 yX7_seed wsX7_seed) := by sorry
set_option maxRecDepth 20000 in
set_option maxRecDepth 20000 in
theorem gL_law_X8_seed : GoodIn wsL_law (wsV RL 63 RX8 yX8_seed wsX8_seed) := by sorry
set_option maxRecDepth 20000 in
set_option maxRecDepth 20000 in
theorem gL_law_X7_draw : GoodIn wsL_law (wsV RL 64 RX7 yX7_draw wsX7_draw) := by sorry
set_option maxRecDepth 20000 in
set_option maxRecDepth 20000 in
theorem gL_law_X8_draw : GoodIn wsL_law (wsV RL 67 RX8 yX8_draw wsX8_draw) := by sorry
set_option maxRecDepth 20000 in
set_option maxRecDepth 20000 in
theorem gL_law_X7_round : GoodIn wsL_law (wsV RL 68 RX7 yX7_round wsX7_round) := by sorry
set_option maxRecDepth 20000 in
set_option maxRecDepth 20000 in
theorem gL_law_X8_round : GoodIn wsL_law (wsV RL 71 RX8 yX8_round wsX8_round) := by sorry
set_option maxRecDepth 20000 in
set_option maxRecDepth 20000 in
theorem gL_law_X7_fresh : GoodIn wsL_law (wsV RL 72 RX7 yX7_fresh wsX7_fresh) := by sorry
set_option maxRecDepth 20000 in
set_option maxRecDepth 20000 in
theorem gL_law_X8_fresh : GoodIn wsL_law (wsV RL 76 RX8 yX8_fresh wsX8_fresh) := by sorry
set_option maxRecDepth 20000 in
set_option maxRecDepth 20000 in
theorem gL_law_X7_undo : GoodIn wsL_law (wsV RL 77 RX7 yX7_undo wsX7_undo) := by sorry
set_option maxRecDepth 20000 in
set_option maxRecDepth 20000 in
theorem gL_law_X8_undo : GoodIn wsL_law (wsV RL 80 RX8 yX8_undo wsX8_undo) := by sorry
set_option maxRecDepth 20000 in
set_option maxRecDepth 20000 in
theorem gL_law_X7_about : GoodIn wsL_law (wsV RL 81 RX7 yX7_about wsX7_about) := by sorry
set_option maxRecDepth 20000 in
set_option maxRecDepth 20000 in
theorem gL_law_X8_about : GoodIn wsL_law (wsV RL 84 RX8 yX8_about wsX8_about) := by sorry
set_option maxRecDepth 20000 in
set_option maxRecDepth 20000 in
theorem gL_law_X7_mass : GoodIn wsL_law (wsV RL 85 RX7 yX7_mass wsX7_mass) := by sorry
set_option maxRecDepth 20000 in
set_option maxRecDepth 20000 in
theorem gL_law_X8_mass : GoodIn wsL_law (wsV RL 89 RX8 yX8_mass wsX8_mass) := by sorry
set_option maxRecDepth 20000 in
set_option maxRecDepth 20000 in
theorem gL_law_X7_guess : GoodIn wsL_law (wsV RL 90 RX7 yX7_guess wsX7_guess) := by sorry
set_option maxRecDepth 20000 in
set_option maxRecDepth 20000 in
theorem gL_law_X8_guess : GoodIn wsL_law (wsV RL 94 RX8 yX8_guess wsX8_guess) := by sorry
set_option maxRecDepth 20000 in
set_option maxRecDepth 20000 in
theorem gL_law_X7_book : GoodIn wsL_law (wsV RL 95 RX7 yX7_book wsX7_book) := by sorry
set_option maxRecDepth 20000 in
set_option maxRecDepth 20000 in
theorem gL_law_X8_book : GoodIn wsL_law (wsV RL 99 RX8 yX8_book wsX8_book) := by sorry
set_option maxRecDepth 20000 in
set_option maxRecDepth 20000 in
theorem gL_law_X7_letter : GoodIn wsL_law (wsV RL 100 RX7 yX7_letter wsX7_letter) := by sorry
set_option maxRecDepth 20000 in
set_option maxRecDepth 20000 in
theorem gL_law_X8_letter : GoodIn wsL_law (wsV RL 104 RX8 yX8_letter wsX8_letter) := by sorry
set_option maxRecDepth 20000 in
set_option maxRecDepth 20000 in
theorem gL_law_X7_owed : GoodIn wsL_law (wsV RL 105 RX7 yX7_owed wsX7_owed) := by sorry
set_option maxRecDepth 20000 in
set_option maxRecDepth 20000 in
theorem gL_law_X8_owed : GoodIn wsL_law (wsV RL 109 RX8 yX8_owed wsX8_owed) := by sorry
set_option maxRecDepth 20000 in
set_option maxRecDepth 20000 in
theorem gL_law_X7_all : GoodIn wsL_law (wsV RL 110 RX7 yX7_all wsX7_all) := by sorry
set_option maxRecDepth 20000 in
set_option maxRecDepth 20000 in
theorem gL_law_X8_all : GoodIn wsL_law (wsV RL 113 RX8 yX8_all wsX8_all) := by sorry
set_option maxRecDepth 20000 in
set_option maxRecDepth 20000 in
theorem gL_law_X7_far : GoodIn wsL_law (wsV RL 114 RX7 yX7_far wsX7_far) := by sorry
set_option maxRecDepth 20000 in
set_option maxRecDepth 20000 in
theorem gL_law_X8_far : GoodIn wsL_law (wsV RL 118 RX8 yX8_far wsX8_far) := by sorry
set_option maxRecDepth 20000 in
set_option maxRecDepth 20000 in
theorem gL_law_X7_unsure : GoodIn wsL_law (wsV RL 119 RX7 yX7_unsure wsX7_unsure) := by sorry
set_option maxRecDepth 20000 in
set_option maxRecDepth 20000 in
theorem gL_law_X8_unsure : GoodIn wsL_law (wsV RL 122 RX8 yX8_unsure wsX8_unsure) := by sorry
set_option maxRecDepth 20000 in
set_option maxRecDepth 20000 in
theorem gL_law_X7_many : GoodIn wsL_law (wsV RL 123 RX7 yX7_many wsX7_many) := by sorry
set_option maxRecDepth 20000 in
set_option maxRecDepth 20000 in
theorem gL_law_X8_many : GoodIn wsL_law (wsV RL 126 RX8 yX8_many wsX8_many) := by sorry
set_option maxRecDepth 20000 in
set_option maxRecDepth 20000 in
theorem gL_law_X7_ticket : GoodIn wsL_law (wsV RL 127 RX7 yX7_ticket wsX7_ticket) := by sorry
set_option maxRecDepth 20000 in
set_option maxRecDepth 20000 in
theorem gL_law_X8_ticket : GoodIn wsL_law (wsV RL 130 RX8 yX8_ticket wsX8_ticket) := by sorry
set_option maxRecDepth 20000 in
set_option maxRecDepth 20000 in
theorem gL_law_X7_fewest : GoodIn wsL_law (wsV RL 131 RX7 yX7_fewest wsX7_fewest) := by sorry
set_option maxRecDepth 20000 in
set_option maxRecDepth 20000 in
theorem gL_law_X8_fewest : GoodIn wsL_law (wsV RL 134 RX8 yX8_fewest wsX8_fewest) := by sorry
set_option maxRecDepth 20000 in
set_option maxRecDepth 20000 in
theorem gL_law_X7_plan : GoodIn wsL_law (wsV RL 135 RX7 yX7_plan wsX7_plan) := by sorry
set_option maxRecDepth 20000 in
set_option maxRecDepth 20000 in
theorem gL_law_X8_plan : GoodIn wsL_law (wsV RL 138 RX8 yX8_plan wsX8_plan) := by sorry
set_option maxRecDepth 20000 in
set_option maxRecDepth 20000 in
theorem gL_law_X7_count : GoodIn wsL_law (wsV RL 139 RX7 yX7_count wsX7_count) := by sorry
set_option maxRecDepth 20000 in
set_option maxRecDepth 20000 in
theorem gL_law_X8_count : GoodIn wsL_law (wsV RL 142 RX8 yX8_count wsX8_count) := by sorry
set_option maxRecDepth 20000 in
set_option maxRecDepth 20000 in
theorem gL_law_X7_digest : GoodIn wsL_law (wsV RL 143 RX7 yX7_digest wsX7_digest) := by sorry
set_option maxRecDepth 20000 in
set_option maxRecDepth 20000 in
theorem gL_law_X8_digest : GoodIn wsL_law (wsV RL 146 RX8 yX8_digest wsX8_digest) := by sorry
theorem dL_law_0 : decode cL_law 0 = .ok (.new 7, 3) := by sorry
theorem dL_law_3 : decode cL_law 3 = .ok (.dup, 1) := by sorry
theorem dL_law_4 : decode cL_law 4 = .ok (.invokespecial 9, 3) := by sorry
theorem dL_law_7 : decode cL_law 7 = .ok (.astore_n 1, 1) := by sorry
theorem dL_law_8 : decode cL_law 8 = .ok (.new 10, 3) := by sorry
theorem dL_law_11 : decode cL_law 11 = .ok (.dup, 1) := by sorry
theorem dL_law_12 : decode cL_law 12 = .ok (.invokespecial 12, 3) := by sorry
theorem dL_law_15 : decode cL_law 15 = .ok (.astore_n 2, 1) := by sorry
theorem dL_law_16 : decode cL_law 16 = .ok (.iconst 0, 1) := by sorry
theorem dL_law_17 : decode cL_law 17 = .ok (.istore_n 3, 1) := by sorry
theorem dL_law_18 : decode cL_law 18 = .ok (.iload_n 3, 1) := by sorry
theorem dL_law_19 : decode cL_law 19 = .ok (.aload_n 0, 1) := by sorry
theorem dL_law_20 : decode cL_law 20 = .ok (.arraylength, 1) := by sorry
theorem dL_law_21 : decode cL_law 21 = .ok (.iconst 4, 1) := by sorry
theorem dL_law_22 : decode cL_law 22 = .ok (.isub, 1) := by sorry
theorem dL_law_23 : decode cL_law 23 = .ok (.if_icmp .gt 1051, 3) := by sorry
theorem dL_law_26 : decode cL_law 26 = .ok (.aload_n 0, 1) := by sorry
theorem dL_law_27 : decode cL_law 27 = .ok (.iload_n 3, 1) := by sorry
theorem dL_law_28 : decode cL_law 28 = .ok (.iaload, 1) := by sorry
theorem dL_law_29 : decode cL_law 29 = .ok (.bipush 31, 2) := by sorry
theorem dL_law_31 : decode cL_law 31 = .ok (.iand, 1) := by sorry
theorem dL_law_32 : decode cL_law 32 = .ok (.tableswitch 1036 0 30 #[140, 163, 196, 229, 262, 295, 318, 351, 394, 427, 450, 473, 496, 529, 562, 575, 588, 621, 671, 695, 755, 789, 829, 869, 883, 896, 920, 953, 976, 999, 1022], 140) := by sorry
theorem dL_law_172 : decode cL_law 172 = .ok (.aload_n 1, 1) := by sorry
theorem dL_law_173 : decode cL_law 173 = .ok (.aload_n 0, 1) := by sorry
theorem dL_law_174 : decode cL_law 174 = .ok (.iload_n 3, 1) := by sorry
theorem dL_law_175 : decode cL_law 175 = .ok (.iconst 1, 1) := by sorry
theorem dL_law_176 : decode cL_law 176 = .ok (.iadd, 1) := by sorry
theorem dL_law_177 : decode cL_law 177 = .ok (.iaload, 1) := by sorry
theorem dL_law_178 : decode cL_law 178 = .ok (.invokevirtual 13, 3) := by sorry
theorem dL_law_181 : decode cL_law 181 = .ok (.aload_n 2, 1) := by sorry
theorem dL_law_182 : decode cL_law 182 = .ok (.aload_n 0, 1) := by sorry
theorem dL_law_183 : decode cL_law 183 = .ok (.iload_n 3, 1) := by sorry
theorem dL_law_184 : decode cL_law 184 = .ok (.iconst 1, 1) := by sorry
theorem dL_law_185 : decode cL_law 185 = .ok (.iadd, 1) := by sorry
theorem dL_law_186 : decode cL_law 186 = .ok (.iaload, 1) := by sorry
theorem dL_law_187 : decode cL_law 187 = .ok (.invokevirtual 17, 3) := by sorry
theorem dL_law_190 : decode cL_law 190 = .ok (.if_icmp .eq 878, 3) := by sorry
theorem dL_law_193 : decode cL_law 193 = .ok (.iconst 0, 1) := by sorry
theorem dL_law_194 : decode cL_law 194 = .ok (.ireturn, 1) := by sorry
theorem dL_law_195 : decode cL_law 195 = .ok (.aload_n 1, 1) := by sorry
theorem dL_law_196 : decode cL_law 196 = .ok (.aload_n 0, 1) := by sorry
theorem dL_law_197 : decode cL_law 197 = .ok (.iload_n 3, 1) := by sorry
theorem dL_law_198 : decode cL_law 198 = .ok (.iconst 1, 1) := by sorry
theorem dL_law_199 : decode cL_law 199 = .ok (.iadd, 1) := by sorry
theorem dL_law_200 : decode cL_law 200 = .ok (.iaload, 1) := by sorry
theorem dL_law_201 : decode cL_law 201 = .ok (.aload_n 0, 1) := by sorry
theorem dL_law_202 : decode cL_law 202 = .ok (.iload_n 3, 1) := by sorry
theorem dL_law_203 : decode cL_law 203 = .ok (.iconst 2, 1) := by sorry
theorem dL_law_204 : decode cL_law 204 = .ok (.iadd, 1) := by sorry
theorem dL_law_205 : decode cL_law 205 = .ok (.iaload, 1) := by sorry
theorem dL_law_206 : decode cL_law 206 = .ok (.invokevirtual 18, 3) := by sorry
theorem dL_law_209 : decode cL_law 209 = .ok (.aload_n 2, 1) := by sorry
theorem dL_law_210 : decode cL_law 210 = .ok (.aload_n 0, 1) := by sorry
theorem dL_law_211 : decode cL_law 211 = .ok (.iload_n 3, 1) := by sorry
theorem dL_law_212 : decode cL_law 212 = .ok (.iconst 1, 1) := by sorry
theorem dL_law_213 : decode cL_law 213 = .ok (.iadd, 1) := by sorry
theorem dL_law_214 : decode cL_law 214 = .ok (.iaload, 1) := by sorry
theorem dL_law_215 : decode cL_law 215 = .ok (.aload_n 0, 1) := by sorry
theorem dL_law_216 : decode cL_law 216 = .ok (.iload_n 3, 1) := by sorry
theorem dL_law_217 : decode cL_law 217 = .ok (.iconst 2, 1) := by sorry
theorem dL_law_218 : decode cL_law 218 = .ok (.iadd, 1) := by sorry
theorem dL_law_219 : decode cL_law 219 = .ok (.iaload, 1) := by sorry
theorem dL_law_220 : decode cL_law 220 = .ok (.invokevirtual 22, 3) := by sorry
theorem dL_law_223 : decode cL_law 223 = .ok (.if_icmp .eq 845, 3) := by sorry
theorem dL_law_226 : decode cL_law 226 = .ok (.iconst 0, 1) := by sorry
theorem dL_law_227 : decode cL_law 227 = .ok (.ireturn, 1) := by sorry
theorem dL_law_228 : decode cL_law 228 = .ok (.aload_n 1, 1) := by sorry
theorem dL_law_229 : decode cL_law 229 = .ok (.aload_n 0, 1) := by sorry
theorem dL_law_230 : decode cL_law 230 = .ok (.iload_n 3, 1) := by sorry
theorem dL_law_231 : decode cL_law 231 = .ok (.iconst 1, 1) := by sorry
theorem dL_law_232 : decode cL_law 232 = .ok (.iadd, 1) := by sorry
theorem dL_law_233 : decode cL_law 233 = .ok (.iaload, 1) := by sorry
theorem dL_law_234 : decode cL_law 234 = .ok (.aload_n 0, 1) := by sorry
theorem dL_law_235 : decode cL_law 235 = .ok (.iload_n 3, 1) := by sorry
theorem dL_law_236 : decode cL_law 236 = .ok (.iconst 2, 1) := by sorry
theorem dL_law_237 : decode cL_law 237 = .ok (.iadd, 1) := by sorry
theorem dL_law_238 : decode cL_law 238 = .ok (.iaload, 1) := by sorry
theorem dL_law_239 : decode cL_law 239 = .ok (.invokevirtual 23, 3) := by sorry
theorem dL_law_242 : decode cL_law 242 = .ok (.aload_n 2, 1) := by sorry
theorem dL_law_243 : decode cL_law 243 = .ok (.aload_n 0, 1) := by sorry
theorem dL_law_244 : decode cL_law 244 = .ok (.iload_n 3, 1) := by sorry
theorem dL_law_245 : decode cL_law 245 = .ok (.iconst 1, 1) := by sorry
theorem dL_law_246 : decode cL_law 246 = .ok (.iadd, 1) := by sorry
theorem dL_law_247 : decode cL_law 247 = .ok (.iaload, 1) := by sorry
theorem dL_law_248 : decode cL_law 248 = .ok (.aload_n 0, 1) := by sorry
theorem dL_law_249 : decode cL_law 249 = .ok (.iload_n 3, 1) := by sorry
theorem dL_law_250 : decode cL_law 250 = .ok (.iconst 2, 1) := by sorry
theorem dL_law_251 : decode cL_law 251 = .ok (.iadd, 1) := by sorry
theorem dL_law_252 : decode cL_law 252 = .ok (.iaload, 1) := by sorry
theorem dL_law_253 : decode cL_law 253 = .ok (.invokevirtual 26, 3) := by sorry
theorem dL_law_256 : decode cL_law 256 = .ok (.if_icmp .eq 812, 3) := by sorry
theorem dL_law_259 : decode cL_law 259 = .ok (.iconst 0, 1) := by sorry
theorem dL_law_260 : decode cL_law 260 = .ok (.ireturn, 1) := by sorry
theorem dL_law_261 : decode cL_law 261 = .ok (.aload_n 1, 1) := by sorry
theorem dL_law_262 : decode cL_law 262 = .ok (.aload_n 0, 1) := by sorry
theorem dL_law_263 : decode cL_law 263 = .ok (.iload_n 3, 1) := by sorry
theorem dL_law_264 : decode cL_law 264 = .ok (.iconst 1, 1) := by sorry
theorem dL_law_265 : decode cL_law 265 = .ok (.iadd, 1) := by sorry
theorem dL_law_266 : decode cL_law 266 = .ok (.iaload, 1) := by sorry
theorem dL_law_267 : decode cL_law 267 = .ok (.aload_n 0, 1) := by sorry
theorem dL_law_268 : decode cL_law 268 = .ok (.iload_n 3, 1) := by sorry
theorem dL_law_269 : decode cL_law 269 = .ok (.iconst 2, 1) := by sorry
theorem dL_law_270 : decode cL_law 270 = .ok (.iadd, 1) := by sorry
theorem dL_law_271 : decode cL_law 271 = .ok (.iaload, 1) := by sorry
theorem dL_law_272 : decode cL_law 272 = .ok (.invokevirtual 27, 3) := by sorry
theorem dL_law_275 : decode cL_law 275 = .ok (.aload_n 2, 1) := by sorry
theorem dL_law_276 : decode cL_law 276 = .ok (.aload_n 0, 1) := by sorry
theorem dL_law_277 : decode cL_law 277 = .ok (.iload_n 3, 1) := by sorry
theorem dL_law_278 : decode cL_law 278 = .ok (.iconst 1, 1) := by sorry
theorem dL_law_279 : decode cL_law 279 = .ok (.iadd, 1) := by sorry
theorem dL_law_280 : decode cL_law 280 = .ok (.iaload, 1) := by sorry
theorem dL_law_281 : decode cL_law 281 = .ok (.aload_n 0, 1) := by sorry
theorem dL_law_282 : decode cL_law 282 = .ok (.iload_n 3, 1) := by sorry
theorem dL_law_283 : decode cL_law 283 = .ok (.iconst 2, 1) := by sorry
theorem dL_law_284 : decode cL_law 284 = .ok (.iadd, 1) := by sorry
theorem dL_law_285 : decode cL_law 285 = .ok (.iaload, 1) := by sorry
theorem dL_law_286 : decode cL_law 286 = .ok (.invokevirtual 30, 3) := by sorry
theorem dL_law_289 : decode cL_law 289 = .ok (.if_icmp .eq 779, 3) := by sorry
theorem dL_law_292 : decode cL_law 292 = .ok (.iconst 0, 1) := by sorry
theorem dL_law_293 : decode cL_law 293 = .ok (.ireturn, 1) := by sorry
theorem dL_law_294 : decode cL_law 294 = .ok (.aload_n 1, 1) := by sorry
theorem dL_law_295 : decode cL_law 295 = .ok (.aload_n 0, 1) := by sorry
theorem dL_law_296 : decode cL_law 296 = .ok (.iload_n 3, 1) := by sorry
theorem dL_law_297 : decode cL_law 297 = .ok (.iconst 1, 1) := by sorry
theorem dL_law_298 : decode cL_law 298 = .ok (.iadd, 1) := by sorry
theorem dL_law_299 : decode cL_law 299 = .ok (.iaload, 1) := by sorry
theorem dL_law_300 : decode cL_law 300 = .ok (.aload_n 0, 1) := by sorry
theorem dL_law_301 : decode cL_law 301 = .ok (.iload_n 3, 1) := by sorry
theorem dL_law_302 : decode cL_law 302 = .ok (.iconst 2, 1) := by sorry
theorem dL_law_303 : decode cL_law 303 = .ok (.iadd, 1) := by sorry
theorem dL_law_304 : decode cL_law 304 = .ok (.iaload, 1) := by sorry
theorem dL_law_305 : decode cL_law 305 = .ok (.invokevirtual 31, 3) := by sorry
theorem dL_law_308 : decode cL_law 308 = .ok (.aload_n 2, 1) := by sorry
theorem dL_law_309 : decode cL_law 309 = .ok (.aload_n 0, 1) := by sorry
theorem dL_law_310 : decode cL_law 310 = .ok (.iload_n 3, 1) := by sorry
theorem dL_law_311 : decode cL_law 311 = .ok (.iconst 1, 1) := by sorry
theorem dL_law_312 : decode cL_law 312 = .ok (.iadd, 1) := by sorry
theorem dL_law_313 : decode cL_law 313 = .ok (.iaload, 1) := by sorry
theorem dL_law_314 : decode cL_law 314 = .ok (.aload_n 0, 1) := by sorry
theorem dL_law_315 : decode cL_law 315 = .ok (.iload_n 3, 1) := by sorry
theorem dL_law_316 : decode cL_law 316 = .ok (.iconst 2, 1) := by sorry
theorem dL_law_317 : decode cL_law 317 = .ok (.iadd, 1) := by sorry
theorem dL_law_318 : decode cL_law 318 = .ok (.iaload, 1) := by sorry
theorem dL_law_319 : decode cL_law 319 = .ok (.invokevirtual 34, 3) := by sorry
theorem dL_law_322 : decode cL_law 322 = .ok (.if_icmp .eq 746, 3) := by sorry
theorem dL_law_325 : decode cL_law 325 = .ok (.iconst 0, 1) := by sorry
theorem dL_law_326 : decode cL_law 326 = .ok (.ireturn, 1) := by sorry
theorem dL_law_327 : decode cL_law 327 = .ok (.aload_n 1, 1) := by sorry
theorem dL_law_328 : decode cL_law 328 = .ok (.aload_n 0, 1) := by sorry
theorem dL_law_329 : decode cL_law 329 = .ok (.iload_n 3, 1) := by sorry
theorem dL_law_330 : decode cL_law 330 = .ok (.iconst 1, 1) := by sorry
theorem dL_law_331 : decode cL_law 331 = .ok (.iadd, 1) := by sorry
theorem dL_law_332 : decode cL_law 332 = .ok (.iaload, 1) := by sorry
theorem dL_law_333 : decode cL_law 333 = .ok (.invokevirtual 35, 3) := by sorry
theorem dL_law_336 : decode cL_law 336 = .ok (.aload_n 2, 1) := by sorry
theorem dL_law_337 : decode cL_law 337 = .ok (.aload_n 0, 1) := by sorry
theorem dL_law_338 : decode cL_law 338 = .ok (.iload_n 3, 1) := by sorry
theorem dL_law_339 : decode cL_law 339 = .ok (.iconst 1, 1) := by sorry
theorem dL_law_340 : decode cL_law 340 = .ok (.iadd, 1) := by sorry
theorem dL_law_341 : decode cL_law 341 = .ok (.iaload, 1) := by sorry
theorem dL_law_342 : decode cL_law 342 = .ok (.invokevirtual 38, 3) := by sorry
theorem dL_law_345 : decode cL_law 345 = .ok (.if_icmp .eq 723, 3) := by sorry
theorem dL_law_348 : decode cL_law 348 = .ok (.iconst 0, 1) := by sorry
theorem dL_law_349 : decode cL_law 349 = .ok (.ireturn, 1) := by sorry
theorem dL_law_350 : decode cL_law 350 = .ok (.aload_n 1, 1) := by sorry
theorem dL_law_351 : decode cL_law 351 = .ok (.aload_n 0, 1) := by sorry
theorem dL_law_352 : decode cL_law 352 = .ok (.iload_n 3, 1) := by sorry
theorem dL_law_353 : decode cL_law 353 = .ok (.iconst 1, 1) := by sorry
theorem dL_law_354 : decode cL_law 354 = .ok (.iadd, 1) := by sorry
theorem dL_law_355 : decode cL_law 355 = .ok (.iaload, 1) := by sorry
theorem dL_law_356 : decode cL_law 356 = .ok (.aload_n 0, 1) := by sorry
theorem dL_law_357 : decode cL_law 357 = .ok (.iload_n 3, 1) := by sorry
theorem dL_law_358 : decode cL_law 358 = .ok (.iconst 2, 1) := by sorry
theorem dL_law_359 : decode cL_law 359 = .ok (.iadd, 1) := by sorry
theorem dL_law_360 : decode cL_law 360 = .ok (.iaload, 1) := by sorry
theorem dL_law_361 : decode cL_law 361 = .ok (.invokevirtual 39, 3) := by sorry
theorem dL_law_364 : decode cL_law 364 = .ok (.aload_n 2, 1) := by sorry
theorem dL_law_365 : decode cL_law 365 = .ok (.aload_n 0, 1) := by sorry
theorem dL_law_366 : decode cL_law 366 = .ok (.iload_n 3, 1) := by sorry
theorem dL_law_367 : decode cL_law 367 = .ok (.iconst 1, 1) := by sorry
theorem dL_law_368 : decode cL_law 368 = .ok (.iadd, 1) := by sorry
theorem dL_law_369 : decode cL_law 369 = .ok (.iaload, 1) := by sorry
theorem dL_law_370 : decode cL_law 370 = .ok (.aload_n 0, 1) := by sorry
theorem dL_law_371 : decode cL_law 371 = .ok (.iload_n 3, 1) := by sorry
theorem dL_law_372 : decode cL_law 372 = .ok (.iconst 2, 1) := by sorry
theorem dL_law_373 : decode cL_law 373 = .ok (.iadd, 1) := by sorry
theorem dL_law_374 : decode cL_law 374 = .ok (.iaload, 1) := by sorry
theorem dL_law_375 : decode cL_law 375 = .ok (.invokevirtual 42, 3) := by sorry
theorem dL_law_378 : decode cL_law 378 = .ok (.if_icmp .eq 690, 3) := by sorry
theorem dL_law_381 : decode cL_law 381 = .ok (.iconst 0, 1) := by sorry
theorem dL_law_382 : decode cL_law 382 = .ok (.ireturn, 1) := by sorry
theorem dL_law_383 : decode cL_law 383 = .ok (.aload_n 1, 1) := by sorry
theorem dL_law_384 : decode cL_law 384 = .ok (.aload_n 0, 1) := by sorry
theorem dL_law_385 : decode cL_law 385 = .ok (.iload_n 3, 1) := by sorry
theorem dL_law_386 : decode cL_law 386 = .ok (.iconst 1, 1) := by sorry
theorem dL_law_387 : decode cL_law 387 = .ok (.iadd, 1) := by sorry
theorem dL_law_388 : decode cL_law 388 = .ok (.iaload, 1) := by sorry
theorem dL_law_389 : decode cL_law 389 = .ok (.aload_n 0, 1) := by sorry
theorem dL_law_390 : decode cL_law 390 = .ok (.iload_n 3, 1) := by sorry
theorem dL_law_391 : decode cL_law 391 = .ok (.iconst 2, 1) := by sorry
theorem dL_law_392 : decode cL_law 392 = .ok (.iadd, 1) := by sorry
theorem dL_law_393 : decode cL_law 393 = .ok (.iaload, 1) := by sorry
theorem dL_law_394 : decode cL_law 394 = .ok (.aload_n 0, 1) := by sorry
theorem dL_law_395 : decode cL_law 395 = .ok (.iload_n 3, 1) := by sorry
theorem dL_law_396 : decode cL_law 396 = .ok (.iconst 3, 1) := by sorry
theorem dL_law_397 : decode cL_law 397 = .ok (.iadd, 1) := by sorry
theorem dL_law_398 : decode cL_law 398 = .ok (.iaload, 1) := by sorry
theorem dL_law_399 : decode cL_law 399 = .ok (.invokevirtual 43, 3) := by sorry
theorem dL_law_402 : decode cL_law 402 = .ok (.aload_n 2, 1) := by sorry
theorem dL_law_403 : decode cL_law 403 = .ok (.aload_n 0, 1) := by sorry
theorem dL_law_404 : decode cL_law 404 = .ok (.iload_n 3, 1) := by sorry
theorem dL_law_405 : decode cL_law 405 = .ok (.iconst 1, 1) := by sorry
theorem dL_law_406 : decode cL_law 406 = .ok (.iadd, 1) := by sorry
theorem dL_law_407 : decode cL_law 407 = .ok (.iaload, 1) := by sorry
theorem dL_law_408 : decode cL_law 408 = .ok (.aload_n 0, 1) := by sorry
theorem dL_law_409 : decode cL_law 409 = .ok (.iload_n 3, 1) := by sorry
theorem dL_law_410 : decode cL_law 410 = .ok (.iconst 2, 1) := by sorry
theorem dL_law_411 : decode cL_law 411 = .ok (.iadd, 1) := by sorry
theorem dL_law_412 : decode cL_law 412 = .ok (.iaload, 1) := by sorry
theorem dL_law_413 : decode cL_law 413 = .ok (.aload_n 0, 1) := by sorry
theorem dL_law_414 : decode cL_law 414 = .ok (.iload_n 3, 1) := by sorry
theorem dL_law_415 : decode cL_law 415 = .ok (.iconst 3, 1) := by sorry
theorem dL_law_416 : decode cL_law 416 = .ok (.iadd, 1) := by sorry
theorem dL_law_417 : decode cL_law 417 = .ok (.iaload, 1) := by sorry
theorem dL_law_418 : decode cL_law 418 = .ok (.invokevirtual 47, 3) := by sorry
theorem dL_law_421 : decode cL_law 421 = .ok (.if_icmp .eq 647, 3) := by sorry
theorem dL_law_424 : decode cL_law 424 = .ok (.iconst 0, 1) := by sorry
theorem dL_law_425 : decode cL_law 425 = .ok (.ireturn, 1) := by sorry
theorem dL_law_426 : decode cL_law 426 = .ok (.aload_n 1, 1) := by sorry
theorem dL_law_427 : decode cL_law 427 = .ok (.aload_n 0, 1) := by sorry
theorem dL_law_428 : decode cL_law 428 = .ok (.iload_n 3, 1) := by sorry
theorem dL_law_429 : decode cL_law 429 = .ok (.iconst 1, 1) := by sorry
theorem dL_law_430 : decode cL_law 430 = .ok (.iadd, 1) := by sorry
theorem dL_law_431 : decode cL_law 431 = .ok (.iaload, 1) := by sorry
theorem dL_law_432 : decode cL_law 432 = .ok (.aload_n 0, 1) := by sorry
theorem dL_law_433 : decode cL_law 433 = .ok (.iload_n 3, 1) := by sorry
theorem dL_law_434 : decode cL_law 434 = .ok (.iconst 2, 1) := by sorry
theorem dL_law_435 : decode cL_law 435 = .ok (.iadd, 1) := by sorry
theorem dL_law_436 : decode cL_law 436 = .ok (.iaload, 1) := by sorry
theorem dL_law_437 : decode cL_law 437 = .ok (.invokevirtual 48, 3) := by sorry
theorem dL_law_440 : decode cL_law 440 = .ok (.aload_n 2, 1) := by sorry
theorem dL_law_441 : decode cL_law 441 = .ok (.aload_n 0, 1) := by sorry
theorem dL_law_442 : decode cL_law 442 = .ok (.iload_n 3, 1) := by sorry
theorem dL_law_443 : decode cL_law 443 = .ok (.iconst 1, 1) := by sorry
theorem dL_law_444 : decode cL_law 444 = .ok (.iadd, 1) := by sorry
theorem dL_law_445 : decode cL_law 445 = .ok (.iaload, 1) := by sorry
theorem dL_law_446 : decode cL_law 446 = .ok (.aload_n 0, 1) := by sorry
theorem dL_law_447 : decode cL_law 447 = .ok (.iload_n 3, 1) := by sorry
theorem dL_law_448 : decode cL_law 448 = .ok (.iconst 2, 1) := by sorry
theorem dL_law_449 : decode cL_law 449 = .ok (.iadd, 1) := by sorry
theorem dL_law_450 : decode cL_law 450 = .ok (.iaload, 1) := by sorry
theorem dL_law_451 : decode cL_law 451 = .ok (.invokevirtual 51, 3) := by sorry
theorem dL_law_454 : decode cL_law 454 = .ok (.if_icmp .eq 614, 3) := by sorry
theorem dL_law_457 : decode cL_law 457 = .ok (.iconst 0, 1) := by sorry
theorem dL_law_458 : decode cL_law 458 = .ok (.ireturn, 1) := by sorry
theorem dL_law_459 : decode cL_law 459 = .ok (.aload_n 1, 1) := by sorry
theorem dL_law_460 : decode cL_law 460 = .ok (.aload_n 0, 1) := by sorry
theorem dL_law_461 : decode cL_law 461 = .ok (.iload_n 3, 1) := by sorry
theorem dL_law_462 : decode cL_law 462 = .ok (.iconst 1, 1) := by sorry
theorem dL_law_463 : decode cL_law 463 = .ok (.iadd, 1) := by sorry
theorem dL_law_464 : decode cL_law 464 = .ok (.iaload, 1) := by sorry
theorem dL_law_465 : decode cL_law 465 = .ok (.invokevirtual 52, 3) := by sorry
theorem dL_law_468 : decode cL_law 468 = .ok (.aload_n 2, 1) := by sorry
theorem dL_law_469 : decode cL_law 469 = .ok (.aload_n 0, 1) := by sorry
theorem dL_law_470 : decode cL_law 470 = .ok (.iload_n 3, 1) := by sorry
theorem dL_law_471 : decode cL_law 471 = .ok (.iconst 1, 1) := by sorry
theorem dL_law_472 : decode cL_law 472 = .ok (.iadd, 1) := by sorry
theorem dL_law_473 : decode cL_law 473 = .ok (.iaload, 1) := by sorry
theorem dL_law_474 : decode cL_law 474 = .ok (.invokevirtual 55, 3) := by sorry
theorem dL_law_477 : decode cL_law 477 = .ok (.if_icmp .eq 591, 3) := by sorry
theorem dL_law_480 : decode cL_law 480 = .ok (.iconst 0, 1) := by sorry
theorem dL_law_481 : decode cL_law 481 = .ok (.ireturn, 1) := by sorry
theorem dL_law_482 : decode cL_law 482 = .ok (.aload_n 1, 1) := by sorry
theorem dL_law_483 : decode cL_law 483 = .ok (.aload_n 0, 1) := by sorry
theorem dL_law_484 : decode cL_law 484 = .ok (.iload_n 3, 1) := by sorry
theorem dL_law_485 : decode cL_law 485 = .ok (.iconst 1, 1) := by sorry
theorem dL_law_486 : decode cL_law 486 = .ok (.iadd, 1) := by sorry
theorem dL_law_487 : decode cL_law 487 = .ok (.iaload, 1) := by sorry
theorem dL_law_488 : decode cL_law 488 = .ok (.invokevirtual 56, 3) := by sorry
theorem dL_law_491 : decode cL_law 491 = .ok (.aload_n 2, 1) := by sorry
theorem dL_law_492 : decode cL_law 492 = .ok (.aload_n 0, 1) := by sorry
theorem dL_law_493 : decode cL_law 493 = .ok (.iload_n 3, 1) := by sorry
theorem dL_law_494 : decode cL_law 494 = .ok (.iconst 1, 1) := by sorry
theorem dL_law_495 : decode cL_law 495 = .ok (.iadd, 1) := by sorry
theorem dL_law_496 : decode cL_law 496 = .ok (.iaload, 1) := by sorry
theorem dL_law_497 : decode cL_law 497 = .ok (.invokevirtual 59, 3) := by sorry
theorem dL_law_500 : decode cL_law 500 = .ok (.if_icmp .eq 568, 3) := by sorry
theorem dL_law_503 : decode cL_law 503 = .ok (.iconst 0, 1) := by sorry
theorem dL_law_504 : decode cL_law 504 = .ok (.ireturn, 1) := by sorry
theorem dL_law_505 : decode cL_law 505 = .ok (.aload_n 1, 1) := by sorry
theorem dL_law_506 : decode cL_law 506 = .ok (.aload_n 0, 1) := by sorry
theorem dL_law_507 : decode cL_law 507 = .ok (.iload_n 3, 1) := by sorry
theorem dL_law_508 : decode cL_law 508 = .ok (.iconst 1, 1) := by sorry
theorem dL_law_509 : decode cL_law 509 = .ok (.iadd, 1) := by sorry
theorem dL_law_510 : decode cL_law 510 = .ok (.iaload, 1) := by sorry
theorem dL_law_511 : decode cL_law 511 = .ok (.invokevirtual 60, 3) := by sorry
theorem dL_law_514 : decode cL_law 514 = .ok (.aload_n 2, 1) := by sorry
theorem dL_law_515 : decode cL_law 515 = .ok (.aload_n 0, 1) := by sorry
theorem dL_law_516 : decode cL_law 516 = .ok (.iload_n 3, 1) := by sorry
theorem dL_law_517 : decode cL_law 517 = .ok (.iconst 1, 1) := by sorry
theorem dL_law_518 : decode cL_law 518 = .ok (.iadd, 1) := by sorry
theorem dL_law_519 : decode cL_law 519 = .ok (.iaload, 1) := by sorry
theorem dL_law_520 : decode cL_law 520 = .ok (.invokevirtual 63, 3) := by sorry
theorem dL_law_523 : decode cL_law 523 = .ok (.if_icmp .eq 545, 3) := by sorry
theorem dL_law_526 : decode cL_law 526 = .ok (.iconst 0, 1) := by sorry
theorem dL_law_527 : decode cL_law 527 = .ok (.ireturn, 1) := by sorry
theorem dL_law_528 : decode cL_law 528 = .ok (.aload_n 1, 1) := by sorry
theorem dL_law_529 : decode cL_law 529 = .ok (.aload_n 0, 1) := by sorry
theorem dL_law_530 : decode cL_law 530 = .ok (.iload_n 3, 1) := by sorry
theorem dL_law_531 : decode cL_law 531 = .ok (.iconst 1, 1) := by sorry
theorem dL_law_532 : decode cL_law 532 = .ok (.iadd, 1) := by sorry
theorem dL_law_533 : decode cL_law 533 = .ok (.iaload, 1) := by sorry
theorem dL_law_534 : decode cL_law 534 = .ok (.aload_n 0, 1) := by sorry
theorem dL_law_535 : decode cL_law 535 = .ok (.iload_n 3, 1) := by sorry
theorem dL_law_536 : decode cL_law 536 = .ok (.iconst 2, 1) := by sorry
theorem dL_law_537 : decode cL_law 537 = .ok (.iadd, 1) := by sorry
theorem dL_law_538 : decode cL_law 538 = .ok (.iaload, 1) := by sorry
theorem dL_law_539 : decode cL_law 539 = .ok (.invokevirtual 64, 3) := by sorry
theorem dL_law_542 : decode cL_law 542 = .ok (.aload_n 2, 1) := by sorry
theorem dL_law_543 : decode cL_law 543 = .ok (.aload_n 0, 1) := by sorry
theorem dL_law_544 : decode cL_law 544 = .ok (.iload_n 3, 1) := by sorry
theorem dL_law_545 : decode cL_law 545 = .ok (.iconst 1, 1) := by sorry
theorem dL_law_546 : decode cL_law 546 = .ok (.iadd, 1) := by sorry
theorem dL_law_547 : decode cL_law 547 = .ok (.iaload, 1) := by sorry
theorem dL_law_548 : decode cL_law 548 = .ok (.aload_n 0, 1) := by sorry
theorem dL_law_549 : decode cL_law 549 = .ok (.iload_n 3, 1) := by sorry
theorem dL_law_550 : decode cL_law 550 = .ok (.iconst 2, 1) := by sorry
theorem dL_law_551 : decode cL_law 551 = .ok (.iadd, 1) := by sorry
theorem dL_law_552 : decode cL_law 552 = .ok (.iaload, 1) := by sorry
theorem dL_law_553 : decode cL_law 553 = .ok (.invokevirtual 67, 3) := by sorry
theorem dL_law_556 : decode cL_law 556 = .ok (.if_icmp .eq 512, 3) := by sorry
theorem dL_law_559 : decode cL_law 559 = .ok (.iconst 0, 1) := by sorry
theorem dL_law_560 : decode cL_law 560 = .ok (.ireturn, 1) := by sorry
theorem dL_law_561 : decode cL_law 561 = .ok (.aload_n 1, 1) := by sorry
theorem dL_law_562 : decode cL_law 562 = .ok (.aload_n 0, 1) := by sorry
theorem dL_law_563 : decode cL_law 563 = .ok (.iload_n 3, 1) := by sorry
theorem dL_law_564 : decode cL_law 564 = .ok (.iconst 1, 1) := by sorry
theorem dL_law_565 : decode cL_law 565 = .ok (.iadd, 1) := by sorry
theorem dL_law_566 : decode cL_law 566 = .ok (.iaload, 1) := by sorry
theorem dL_law_567 : decode cL_law 567 = .ok (.aload_n 0, 1) := by sorry
theorem dL_law_568 : decode cL_law 568 = .ok (.iload_n 3, 1) := by sorry
theorem dL_law_569 : decode cL_law 569 = .ok (.iconst 2, 1) := by sorry
theorem dL_law_570 : decode cL_law 570 = .ok (.iadd, 1) := by sorry
theorem dL_law_571 : decode cL_law 571 = .ok (.iaload, 1) := by sorry
theorem dL_law_572 : decode cL_law 572 = .ok (.invokevirtual 68, 3) := by sorry
theorem dL_law_575 : decode cL_law 575 = .ok (.aload_n 2, 1) := by sorry
theorem dL_law_576 : decode cL_law 576 = .ok (.aload_n 0, 1) := by sorry
theorem dL_law_577 : decode cL_law 577 = .ok (.iload_n 3, 1) := by sorry
theorem dL_law_578 : decode cL_law 578 = .ok (.iconst 1, 1) := by sorry
theorem dL_law_579 : decode cL_law 579 = .ok (.iadd, 1) := by sorry
theorem dL_law_580 : decode cL_law 580 = .ok (.iaload, 1) := by sorry
theorem dL_law_581 : decode cL_law 581 = .ok (.aload_n 0, 1) := by sorry
theorem dL_law_582 : decode cL_law 582 = .ok (.iload_n 3, 1) := by sorry
theorem dL_law_583 : decode cL_law 583 = .ok (.iconst 2, 1) := by sorry
theorem dL_law_584 : decode cL_law 584 = .ok (.iadd, 1) := by sorry
theorem dL_law_585 : decode cL_law 585 = .ok (.iaload, 1) := by sorry
theorem dL_law_586 : decode cL_law 586 = .ok (.invokevirtual 71, 3) := by sorry
theorem dL_law_589 : decode cL_law 589 = .ok (.if_icmp .eq 479, 3) := by sorry
theorem dL_law_592 : decode cL_law 592 = .ok (.iconst 0, 1) := by sorry
theorem dL_law_593 : decode cL_law 593 = .ok (.ireturn, 1) := by sorry
theorem dL_law_594 : decode cL_law 594 = .ok (.aload_n 1, 1) := by sorry
theorem dL_law_595 : decode cL_law 595 = .ok (.invokevirtual 72, 3) := by sorry
theorem dL_law_598 : decode cL_law 598 = .ok (.aload_n 2, 1) := by sorry
theorem dL_law_599 : decode cL_law 599 = .ok (.invokevirtual 76, 3) := by sorry
theorem dL_law_602 : decode cL_law 602 = .ok (.if_icmp .eq 466, 3) := by sorry
theorem dL_law_605 : decode cL_law 605 = .ok (.iconst 0, 1) := by sorry
theorem dL_law_606 : decode cL_law 606 = .ok (.ireturn, 1) := by sorry
theorem dL_law_607 : decode cL_law 607 = .ok (.aload_n 1, 1) := by sorry
theorem dL_law_608 : decode cL_law 608 = .ok (.invokevirtual 77, 3) := by sorry
theorem dL_law_611 : decode cL_law 611 = .ok (.aload_n 2, 1) := by sorry
theorem dL_law_612 : decode cL_law 612 = .ok (.invokevirtual 80, 3) := by sorry
theorem dL_law_615 : decode cL_law 615 = .ok (.if_icmp .eq 453, 3) := by sorry
theorem dL_law_618 : decode cL_law 618 = .ok (.iconst 0, 1) := by sorry
theorem dL_law_619 : decode cL_law 619 = .ok (.ireturn, 1) := by sorry
theorem dL_law_620 : decode cL_law 620 = .ok (.aload_n 1, 1) := by sorry
theorem dL_law_621 : decode cL_law 621 = .ok (.aload_n 0, 1) := by sorry
theorem dL_law_622 : decode cL_law 622 = .ok (.iload_n 3, 1) := by sorry
theorem dL_law_623 : decode cL_law 623 = .ok (.iconst 1, 1) := by sorry
theorem dL_law_624 : decode cL_law 624 = .ok (.iadd, 1) := by sorry
theorem dL_law_625 : decode cL_law 625 = .ok (.iaload, 1) := by sorry
theorem dL_law_626 : decode cL_law 626 = .ok (.aload_n 0, 1) := by sorry
theorem dL_law_627 : decode cL_law 627 = .ok (.iload_n 3, 1) := by sorry
theorem dL_law_628 : decode cL_law 628 = .ok (.iconst 2, 1) := by sorry
theorem dL_law_629 : decode cL_law 629 = .ok (.iadd, 1) := by sorry
theorem dL_law_630 : decode cL_law 630 = .ok (.iaload, 1) := by sorry
theorem dL_law_631 : decode cL_law 631 = .ok (.invokevirtual 81, 3) := by sorry
theorem dL_law_634 : decode cL_law 634 = .ok (.aload_n 2, 1) := by sorry
theorem dL_law_635 : decode cL_law 635 = .ok (.aload_n 0, 1) := by sorry
theorem dL_law_636 : decode cL_law 636 = .ok (.iload_n 3, 1) := by sorry
theorem dL_law_637 : decode cL_law 637 = .ok (.iconst 1, 1) := by sorry
theorem dL_law_638 : decode cL_law 638 = .ok (.iadd, 1) := by sorry
theorem dL_law_639 : decode cL_law 639 = .ok (.iaload, 1) := by sorry
theorem dL_law_640 : decode cL_law 640 = .ok (.aload_n 0, 1) := by sorry
theorem dL_law_641 : decode cL_law 641 = .ok (.iload_n 3, 1) := by sorry
theorem dL_law_642 : decode cL_law 642 = .ok (.iconst 2, 1) := by sorry
theorem dL_law_643 : decode cL_law 643 = .ok (.iadd, 1) := by sorry
theorem dL_law_644 : decode cL_law 644 = .ok (.iaload, 1) := by sorry
theorem dL_law_645 : decode cL_law 645 = .ok (.invokevirtual 84, 3) := by sorry
theorem dL_law_648 : decode cL_law 648 = .ok (.if_icmp .eq 420, 3) := by sorry
theorem dL_law_651 : decode cL_law 651 = .ok (.iconst 0, 1) := by sorry
theorem dL_law_652 : decode cL_law 652 = .ok (.ireturn, 1) := by sorry
theorem dL_law_653 : decode cL_law 653 = .ok (.aload_n 1, 1) := by sorry
theorem dL_law_654 : decode cL_law 654 = .ok (.aload_n 0, 1) := by sorry
theorem dL_law_655 : decode cL_law 655 = .ok (.iload_n 3, 1) := by sorry
theorem dL_law_656 : decode cL_law 656 = .ok (.iconst 1, 1) := by sorry
theorem dL_law_657 : decode cL_law 657 = .ok (.iadd, 1) := by sorry
theorem dL_law_658 : decode cL_law 658 = .ok (.iaload, 1) := by sorry
theorem dL_law_659 : decode cL_law 659 = .ok (.aload_n 0, 1) := by sorry
theorem dL_law_660 : decode cL_law 660 = .ok (.iload_n 3, 1) := by sorry
theorem dL_law_661 : decode cL_law 661 = .ok (.iconst 2, 1) := by sorry
theorem dL_law_662 : decode cL_law 662 = .ok (.iadd, 1) := by sorry
theorem dL_law_663 : decode cL_law 663 = .ok (.iaload, 1) := by sorry
theorem dL_law_664 : decode cL_law 664 = .ok (.ifCond .eq 7, 3) := by sorry
theorem dL_law_667 : decode cL_law 667 = .ok (.iconst 1, 1) := by sorry
theorem dL_law_668 : decode cL_law 668 = .ok (.goto 4, 3) := by sorry
theorem dL_law_671 : decode cL_law 671 = .ok (.iconst 0, 1) := by sorry
theorem dL_law_672 : decode cL_law 672 = .ok (.invokevirtual 85, 3) := by sorry
theorem dL_law_675 : decode cL_law 675 = .ok (.aload_n 2, 1) := by sorry
theorem dL_law_676 : decode cL_law 676 = .ok (.aload_n 0, 1) := by sorry
theorem dL_law_677 : decode cL_law 677 = .ok (.iload_n 3, 1) := by sorry
theorem dL_law_678 : decode cL_law 678 = .ok (.iconst 1, 1) := by sorry
theorem dL_law_679 : decode cL_law 679 = .ok (.iadd, 1) := by sorry
theorem dL_law_680 : decode cL_law 680 = .ok (.iaload, 1) := by sorry
theorem dL_law_681 : decode cL_law 681 = .ok (.aload_n 0, 1) := by sorry
theorem dL_law_682 : decode cL_law 682 = .ok (.iload_n 3, 1) := by sorry
theorem dL_law_683 : decode cL_law 683 = .ok (.iconst 2, 1) := by sorry
theorem dL_law_684 : decode cL_law 684 = .ok (.iadd, 1) := by sorry
theorem dL_law_685 : decode cL_law 685 = .ok (.iaload, 1) := by sorry
theorem dL_law_686 : decode cL_law 686 = .ok (.ifCond .eq 7, 3) := by sorry
theorem dL_law_689 : decode cL_law 689 = .ok (.iconst 1, 1) := by sorry
theorem dL_law_690 : decode cL_law 690 = .ok (.goto 4, 3) := by sorry
theorem dL_law_693 : decode cL_law 693 = .ok (.iconst 0, 1) := by sorry
theorem dL_law_694 : decode cL_law 694 = .ok (.invokevirtual 89, 3) := by sorry
theorem dL_law_697 : decode cL_law 697 = .ok (.lcmp, 1) := by sorry
theorem dL_law_698 : decode cL_law 698 = .ok (.ifCond .eq 370, 3) := by sorry
theorem dL_law_701 : decode cL_law 701 = .ok (.iconst 0, 1) := by sorry
theorem dL_law_702 : decode cL_law 702 = .ok (.ireturn, 1) := by sorry
theorem dL_law_703 : decode cL_law 703 = .ok (.aload_n 1, 1) := by sorry
theorem dL_law_704 : decode cL_law 704 = .ok (.aload_n 0, 1) := by sorry
theorem dL_law_705 : decode cL_law 705 = .ok (.iload_n 3, 1) := by sorry
theorem dL_law_706 : decode cL_law 706 = .ok (.iconst 1, 1) := by sorry
theorem dL_law_707 : decode cL_law 707 = .ok (.iadd, 1) := by sorry
theorem dL_law_708 : decode cL_law 708 = .ok (.iaload, 1) := by sorry
theorem dL_law_709 : decode cL_law 709 = .ok (.invokevirtual 90, 3) := by sorry
theorem dL_law_712 : decode cL_law 712 = .ok (.aload_n 2, 1) := by sorry
theorem dL_law_713 : decode cL_law 713 = .ok (.aload_n 0, 1) := by sorry
theorem dL_law_714 : decode cL_law 714 = .ok (.iload_n 3, 1) := by sorry
theorem dL_law_715 : decode cL_law 715 = .ok (.iconst 1, 1) := by sorry
theorem dL_law_716 : decode cL_law 716 = .ok (.iadd, 1) := by sorry
theorem dL_law_717 : decode cL_law 717 = .ok (.iaload, 1) := by sorry
theorem dL_law_718 : decode cL_law 718 = .ok (.invokevirtual 94, 3) := by sorry
theorem dL_law_721 : decode cL_law 721 = .ok (.lcmp, 1) := by sorry
theorem dL_law_722 : decode cL_law 722 = .ok (.ifCond .eq 346, 3) := by sorry
theorem dL_law_725 : decode cL_law 725 = .ok (.iconst 0, 1) := by sorry
theorem dL_law_726 : decode cL_law 726 = .ok (.ireturn, 1) := by sorry
theorem dL_law_727 : decode cL_law 727 = .ok (.aload_n 1, 1) := by sorry
theorem dL_law_728 : decode cL_law 728 = .ok (.aload_n 0, 1) := by sorry
theorem dL_law_729 : decode cL_law 729 = .ok (.iload_n 3, 1) := by sorry
theorem dL_law_730 : decode cL_law 730 = .ok (.iconst 1, 1) := by sorry
theorem dL_law_731 : decode cL_law 731 = .ok (.iadd, 1) := by sorry
theorem dL_law_732 : decode cL_law 732 = .ok (.iaload, 1) := by sorry
theorem dL_law_733 : decode cL_law 733 = .ok (.aload_n 0, 1) := by sorry
theorem dL_law_734 : decode cL_law 734 = .ok (.iload_n 3, 1) := by sorry
theorem dL_law_735 : decode cL_law 735 = .ok (.iconst 2, 1) := by sorry
theorem dL_law_736 : decode cL_law 736 = .ok (.iadd, 1) := by sorry
theorem dL_law_737 : decode cL_law 737 = .ok (.iaload, 1) := by sorry
theorem dL_law_738 : decode cL_law 738 = .ok (.aload_n 0, 1) := by sorry
theorem dL_law_739 : decode cL_law 739 = .ok (.iload_n 3, 1) := by sorry
theorem dL_law_740 : decode cL_law 740 = .ok (.iconst 3, 1) := by sorry
theorem dL_law_741 : decode cL_law 741 = .ok (.iadd, 1) := by sorry
theorem dL_law_742 : decode cL_law 742 = .ok (.iaload, 1) := by sorry
theorem dL_law_743 : decode cL_law 743 = .ok (.ifCond .eq 7, 3) := by sorry
theorem dL_law_746 : decode cL_law 746 = .ok (.iconst 1, 1) := by sorry
theorem dL_law_747 : decode cL_law 747 = .ok (.goto 4, 3) := by sorry
theorem dL_law_750 : decode cL_law 750 = .ok (.iconst 0, 1) := by sorry
theorem dL_law_751 : decode cL_law 751 = .ok (.invokevirtual 95, 3) := by sorry
theorem dL_law_754 : decode cL_law 754 = .ok (.aload_n 2, 1) := by sorry
theorem dL_law_755 : decode cL_law 755 = .ok (.aload_n 0, 1) := by sorry
theorem dL_law_756 : decode cL_law 756 = .ok (.iload_n 3, 1) := by sorry
theorem dL_law_757 : decode cL_law 757 = .ok (.iconst 1, 1) := by sorry
theorem dL_law_758 : decode cL_law 758 = .ok (.iadd, 1) := by sorry
theorem dL_law_759 : decode cL_law 759 = .ok (.iaload, 1) := by sorry
theorem dL_law_760 : decode cL_law 760 = .ok (.aload_n 0, 1) := by sorry
theorem dL_law_761 : decode cL_law 761 = .ok (.iload_n 3, 1) := by sorry
theorem dL_law_762 : decode cL_law 762 = .ok (.iconst 2, 1) := by sorry
theorem dL_law_763 : decode cL_law 763 = .ok (.iadd, 1) := by sorry
theorem dL_law_764 : decode cL_law 764 = .ok (.iaload, 1) := by sorry
theorem dL_law_765 : decode cL_law 765 = .ok (.aload_n 0, 1) := by sorry
theorem dL_law_766 : decode cL_law 766 = .ok (.iload_n 3, 1) := by sorry
theorem dL_law_767 : decode cL_law 767 = .ok (.iconst 3, 1) := by sorry
theorem dL_law_768 : decode cL_law 768 = .ok (.iadd, 1) := by sorry
theorem dL_law_769 : decode cL_law 769 = .ok (.iaload, 1) := by sorry
theorem dL_law_770 : decode cL_law 770 = .ok (.ifCond .eq 7, 3) := by sorry
theorem dL_law_773 : decode cL_law 773 = .ok (.iconst 1, 1) := by sorry
theorem dL_law_774 : decode cL_law 774 = .ok (.goto 4, 3) := by sorry
theorem dL_law_777 : decode cL_law 777 = .ok (.iconst 0, 1) := by sorry
theorem dL_law_778 : decode cL_law 778 = .ok (.invokevirtual 99, 3) := by sorry
theorem dL_law_781 : decode cL_law 781 = .ok (.lcmp, 1) := by sorry
theorem dL_law_782 : decode cL_law 782 = .ok (.ifCond .eq 286, 3) := by sorry
theorem dL_law_785 : decode cL_law 785 = .ok (.iconst 0, 1) := by sorry
theorem dL_law_786 : decode cL_law 786 = .ok (.ireturn, 1) := by sorry
theorem dL_law_787 : decode cL_law 787 = .ok (.aload_n 1, 1) := by sorry
theorem dL_law_788 : decode cL_law 788 = .ok (.aload_n 0, 1) := by sorry
theorem dL_law_789 : decode cL_law 789 = .ok (.iload_n 3, 1) := by sorry
theorem dL_law_790 : decode cL_law 790 = .ok (.iconst 1, 1) := by sorry
theorem dL_law_791 : decode cL_law 791 = .ok (.iadd, 1) := by sorry
theorem dL_law_792 : decode cL_law 792 = .ok (.iaload, 1) := by sorry
theorem dL_law_793 : decode cL_law 793 = .ok (.aload_n 0, 1) := by sorry
theorem dL_law_794 : decode cL_law 794 = .ok (.iload_n 3, 1) := by sorry
theorem dL_law_795 : decode cL_law 795 = .ok (.iconst 2, 1) := by sorry
theorem dL_law_796 : decode cL_law 796 = .ok (.iadd, 1) := by sorry
theorem dL_law_797 : decode cL_law 797 = .ok (.iaload, 1) := by sorry
theorem dL_law_798 : decode cL_law 798 = .ok (.invokevirtual 100, 3) := by sorry
theorem dL_law_801 : decode cL_law 801 = .ok (.aload_n 2, 1) := by sorry
theorem dL_law_802 : decode cL_law 802 = .ok (.aload_n 0, 1) := by sorry
theorem dL_law_803 : decode cL_law 803 = .ok (.iload_n 3, 1) := by sorry
theorem dL_law_804 : decode cL_law 804 = .ok (.iconst 1, 1) := by sorry
theorem dL_law_805 : decode cL_law 805 = .ok (.iadd, 1) := by sorry
theorem dL_law_806 : decode cL_law 806 = .ok (.iaload, 1) := by sorry
theorem dL_law_807 : decode cL_law 807 = .ok (.aload_n 0, 1) := by sorry
theorem dL_law_808 : decode cL_law 808 = .ok (.iload_n 3, 1) := by sorry
theorem dL_law_809 : decode cL_law 809 = .ok (.iconst 2, 1) := by sorry
theorem dL_law_810 : decode cL_law 810 = .ok (.iadd, 1) := by sorry
theorem dL_law_811 : decode cL_law 811 = .ok (.iaload, 1) := by sorry
theorem dL_law_812 : decode cL_law 812 = .ok (.invokevirtual 104, 3) := by sorry
theorem dL_law_815 : decode cL_law 815 = .ok (.lcmp, 1) := by sorry
theorem dL_law_816 : decode cL_law 816 = .ok (.ifCond .eq 252, 3) := by sorry
theorem dL_law_819 : decode cL_law 819 = .ok (.iconst 0, 1) := by sorry
theorem dL_law_820 : decode cL_law 820 = .ok (.ireturn, 1) := by sorry
theorem dL_law_821 : decode cL_law 821 = .ok (.aload_n 1, 1) := by sorry
theorem dL_law_822 : decode cL_law 822 = .ok (.aload_n 0, 1) := by sorry
theorem dL_law_823 : decode cL_law 823 = .ok (.iload_n 3, 1) := by sorry
theorem dL_law_824 : decode cL_law 824 = .ok (.iconst 1, 1) := by sorry
theorem dL_law_825 : decode cL_law 825 = .ok (.iadd, 1) := by sorry
theorem dL_law_826 : decode cL_law 826 = .ok (.iaload, 1) := by sorry
theorem dL_law_827 : decode cL_law 827 = .ok (.ifCond .eq 7, 3) := by sorry
theorem dL_law_830 : decode cL_law 830 = .ok (.iconst 1, 1) := by sorry
theorem dL_law_831 : decode cL_law 831 = .ok (.goto 4, 3) := by sorry
theorem dL_law_834 : decode cL_law 834 = .ok (.iconst 0, 1) := by sorry
theorem dL_law_835 : decode cL_law 835 = .ok (.invokevirtual 105, 3) := by sorry
theorem dL_law_838 : decode cL_law 838 = .ok (.aload_n 2, 1) := by sorry
theorem dL_law_839 : decode cL_law 839 = .ok (.aload_n 0, 1) := by sorry
theorem dL_law_840 : decode cL_law 840 = .ok (.iload_n 3, 1) := by sorry
theorem dL_law_841 : decode cL_law 841 = .ok (.iconst 1, 1) := by sorry
theorem dL_law_842 : decode cL_law 842 = .ok (.iadd, 1) := by sorry
theorem dL_law_843 : decode cL_law 843 = .ok (.iaload, 1) := by sorry
theorem dL_law_844 : decode cL_law 844 = .ok (.ifCond .eq 7, 3) := by sorry
theorem dL_law_847 : decode cL_law 847 = .ok (.iconst 1, 1) := by sorry
theorem dL_law_848 : decode cL_law 848 = .ok (.goto 4, 3) := by sorry
theorem dL_law_851 : decode cL_law 851 = .ok (.iconst 0, 1) := by sorry
theorem dL_law_852 : decode cL_law 852 = .ok (.invokevirtual 109, 3) := by sorry
theorem dL_law_855 : decode cL_law 855 = .ok (.lcmp, 1) := by sorry
theorem dL_law_856 : decode cL_law 856 = .ok (.ifCond .eq 212, 3) := by sorry
theorem dL_law_859 : decode cL_law 859 = .ok (.iconst 0, 1) := by sorry
theorem dL_law_860 : decode cL_law 860 = .ok (.ireturn, 1) := by sorry
theorem dL_law_861 : decode cL_law 861 = .ok (.aload_n 1, 1) := by sorry
theorem dL_law_862 : decode cL_law 862 = .ok (.aload_n 0, 1) := by sorry
theorem dL_law_863 : decode cL_law 863 = .ok (.iload_n 3, 1) := by sorry
theorem dL_law_864 : decode cL_law 864 = .ok (.iconst 1, 1) := by sorry
theorem dL_law_865 : decode cL_law 865 = .ok (.iadd, 1) := by sorry
theorem dL_law_866 : decode cL_law 866 = .ok (.iaload, 1) := by sorry
theorem dL_law_867 : decode cL_law 867 = .ok (.ifCond .eq 7, 3) := by sorry
theorem dL_law_870 : decode cL_law 870 = .ok (.iconst 1, 1) := by sorry
theorem dL_law_871 : decode cL_law 871 = .ok (.goto 4, 3) := by sorry
theorem dL_law_874 : decode cL_law 874 = .ok (.iconst 0, 1) := by sorry
theorem dL_law_875 : decode cL_law 875 = .ok (.invokevirtual 110, 3) := by sorry
theorem dL_law_878 : decode cL_law 878 = .ok (.aload_n 2, 1) := by sorry
theorem dL_law_879 : decode cL_law 879 = .ok (.aload_n 0, 1) := by sorry
theorem dL_law_880 : decode cL_law 880 = .ok (.iload_n 3, 1) := by sorry
theorem dL_law_881 : decode cL_law 881 = .ok (.iconst 1, 1) := by sorry
theorem dL_law_882 : decode cL_law 882 = .ok (.iadd, 1) := by sorry
theorem dL_law_883 : decode cL_law 883 = .ok (.iaload, 1) := by sorry
theorem dL_law_884 : decode cL_law 884 = .ok (.ifCond .eq 7, 3) := by sorry
theorem dL_law_887 : decode cL_law 887 = .ok (.iconst 1, 1) := by sorry
theorem dL_law_888 : decode cL_law 888 = .ok (.goto 4, 3) := by sorry
theorem dL_law_891 : decode cL_law 891 = .ok (.iconst 0, 1) := by sorry
theorem dL_law_892 : decode cL_law 892 = .ok (.invokevirtual 113, 3) := by sorry
theorem dL_law_895 : decode cL_law 895 = .ok (.lcmp, 1) := by sorry
theorem dL_law_896 : decode cL_law 896 = .ok (.ifCond .eq 172, 3) := by sorry
theorem dL_law_899 : decode cL_law 899 = .ok (.iconst 0, 1) := by sorry
theorem dL_law_900 : decode cL_law 900 = .ok (.ireturn, 1) := by sorry
theorem dL_law_901 : decode cL_law 901 = .ok (.aload_n 1, 1) := by sorry
theorem dL_law_902 : decode cL_law 902 = .ok (.invokevirtual 114, 3) := by sorry
theorem dL_law_905 : decode cL_law 905 = .ok (.aload_n 2, 1) := by sorry
theorem dL_law_906 : decode cL_law 906 = .ok (.invokevirtual 118, 3) := by sorry
theorem dL_law_909 : decode cL_law 909 = .ok (.lcmp, 1) := by sorry
theorem dL_law_910 : decode cL_law 910 = .ok (.ifCond .eq 158, 3) := by sorry
theorem dL_law_913 : decode cL_law 913 = .ok (.iconst 0, 1) := by sorry
theorem dL_law_914 : decode cL_law 914 = .ok (.ireturn, 1) := by sorry
theorem dL_law_915 : decode cL_law 915 = .ok (.aload_n 1, 1) := by sorry
theorem dL_law_916 : decode cL_law 916 = .ok (.invokevirtual 119, 3) := by sorry
theorem dL_law_919 : decode cL_law 919 = .ok (.aload_n 2, 1) := by sorry
theorem dL_law_920 : decode cL_law 920 = .ok (.invokevirtual 122, 3) := by sorry
theorem dL_law_923 : decode cL_law 923 = .ok (.if_icmp .eq 145, 3) := by sorry
theorem dL_law_926 : decode cL_law 926 = .ok (.iconst 0, 1) := by sorry
theorem dL_law_927 : decode cL_law 927 = .ok (.ireturn, 1) := by sorry
theorem dL_law_928 : decode cL_law 928 = .ok (.aload_n 1, 1) := by sorry
theorem dL_law_929 : decode cL_law 929 = .ok (.aload_n 0, 1) := by sorry
theorem dL_law_930 : decode cL_law 930 = .ok (.iload_n 3, 1) := by sorry
theorem dL_law_931 : decode cL_law 931 = .ok (.iconst 1, 1) := by sorry
theorem dL_law_932 : decode cL_law 932 = .ok (.iadd, 1) := by sorry
theorem dL_law_933 : decode cL_law 933 = .ok (.iaload, 1) := by sorry
theorem dL_law_934 : decode cL_law 934 = .ok (.invokevirtual 123, 3) := by sorry
theorem dL_law_937 : decode cL_law 937 = .ok (.aload_n 2, 1) := by sorry
theorem dL_law_938 : decode cL_law 938 = .ok (.aload_n 0, 1) := by sorry
theorem dL_law_939 : decode cL_law 939 = .ok (.iload_n 3, 1) := by sorry
theorem dL_law_940 : decode cL_law 940 = .ok (.iconst 1, 1) := by sorry
theorem dL_law_941 : decode cL_law 941 = .ok (.iadd, 1) := by sorry
theorem dL_law_942 : decode cL_law 942 = .ok (.iaload, 1) := by sorry
theorem dL_law_943 : decode cL_law 943 = .ok (.invokevirtual 126, 3) := by sorry
theorem dL_law_946 : decode cL_law 946 = .ok (.lcmp, 1) := by sorry
theorem dL_law_947 : decode cL_law 947 = .ok (.ifCond .eq 121, 3) := by sorry
theorem dL_law_950 : decode cL_law 950 = .ok (.iconst 0, 1) := by sorry
theorem dL_law_951 : decode cL_law 951 = .ok (.ireturn, 1) := by sorry
theorem dL_law_952 : decode cL_law 952 = .ok (.aload_n 1, 1) := by sorry
theorem dL_law_953 : decode cL_law 953 = .ok (.aload_n 0, 1) := by sorry
theorem dL_law_954 : decode cL_law 954 = .ok (.iload_n 3, 1) := by sorry
theorem dL_law_955 : decode cL_law 955 = .ok (.iconst 1, 1) := by sorry
theorem dL_law_956 : decode cL_law 956 = .ok (.iadd, 1) := by sorry
theorem dL_law_957 : decode cL_law 957 = .ok (.iaload, 1) := by sorry
theorem dL_law_958 : decode cL_law 958 = .ok (.aload_n 0, 1) := by sorry
theorem dL_law_959 : decode cL_law 959 = .ok (.iload_n 3, 1) := by sorry
theorem dL_law_960 : decode cL_law 960 = .ok (.iconst 2, 1) := by sorry
theorem dL_law_961 : decode cL_law 961 = .ok (.iadd, 1) := by sorry
theorem dL_law_962 : decode cL_law 962 = .ok (.iaload, 1) := by sorry
theorem dL_law_963 : decode cL_law 963 = .ok (.invokevirtual 127, 3) := by sorry
theorem dL_law_966 : decode cL_law 966 = .ok (.aload_n 2, 1) := by sorry
theorem dL_law_967 : decode cL_law 967 = .ok (.aload_n 0, 1) := by sorry
theorem dL_law_968 : decode cL_law 968 = .ok (.iload_n 3, 1) := by sorry
theorem dL_law_969 : decode cL_law 969 = .ok (.iconst 1, 1) := by sorry
theorem dL_law_970 : decode cL_law 970 = .ok (.iadd, 1) := by sorry
theorem dL_law_971 : decode cL_law 971 = .ok (.iaload, 1) := by sorry
theorem dL_law_972 : decode cL_law 972 = .ok (.aload_n 0, 1) := by sorry
theorem dL_law_973 : decode cL_law 973 = .ok (.iload_n 3, 1) := by sorry
theorem dL_law_974 : decode cL_law 974 = .ok (.iconst 2, 1) := by sorry
theorem dL_law_975 : decode cL_law 975 = .ok (.iadd, 1) := by sorry
theorem dL_law_976 : decode cL_law 976 = .ok (.iaload, 1) := by sorry
theorem dL_law_977 : decode cL_law 977 = .ok (.invokevirtual 130, 3) := by sorry
theorem dL_law_980 : decode cL_law 980 = .ok (.if_icmp .eq 88, 3) := by sorry
theorem dL_law_983 : decode cL_law 983 = .ok (.iconst 0, 1) := by sorry
theorem dL_law_984 : decode cL_law 984 = .ok (.ireturn, 1) := by sorry
theorem dL_law_985 : decode cL_law 985 = .ok (.aload_n 1, 1) := by sorry
theorem dL_law_986 : decode cL_law 986 = .ok (.aload_n 0, 1) := by sorry
theorem dL_law_987 : decode cL_law 987 = .ok (.iload_n 3, 1) := by sorry
theorem dL_law_988 : decode cL_law 988 = .ok (.iconst 1, 1) := by sorry
theorem dL_law_989 : decode cL_law 989 = .ok (.iadd, 1) := by sorry
theorem dL_law_990 : decode cL_law 990 = .ok (.iaload, 1) := by sorry
theorem dL_law_991 : decode cL_law 991 = .ok (.invokevirtual 131, 3) := by sorry
theorem dL_law_994 : decode cL_law 994 = .ok (.aload_n 2, 1) := by sorry
theorem dL_law_995 : decode cL_law 995 = .ok (.aload_n 0, 1) := by sorry
theorem dL_law_996 : decode cL_law 996 = .ok (.iload_n 3, 1) := by sorry
theorem dL_law_997 : decode cL_law 997 = .ok (.iconst 1, 1) := by sorry
theorem dL_law_998 : decode cL_law 998 = .ok (.iadd, 1) := by sorry
theorem dL_law_999 : decode cL_law 999 = .ok (.iaload, 1) := by sorry
theorem dL_law_1000 : decode cL_law 1000 = .ok (.invokevirtual 134, 3) := by sorry
theorem dL_law_1003 : decode cL_law 1003 = .ok (.if_icmp .eq 65, 3) := by sorry
theorem dL_law_1006 : decode cL_law 1006 = .ok (.iconst 0, 1) := by sorry
theorem dL_law_1007 : decode cL_law 1007 = .ok (.ireturn, 1) := by sorry
theorem dL_law_1008 : decode cL_law 1008 = .ok (.aload_n 1, 1) := by sorry
theorem dL_law_1009 : decode cL_law 1009 = .ok (.aload_n 0, 1) := by sorry
theorem dL_law_1010 : decode cL_law 1010 = .ok (.iload_n 3, 1) := by sorry
theorem dL_law_1011 : decode cL_law 1011 = .ok (.iconst 1, 1) := by sorry
theorem dL_law_1012 : decode cL_law 1012 = .ok (.iadd, 1) := by sorry
theorem dL_law_1013 : decode cL_law 1013 = .ok (.iaload, 1) := by sorry
theorem dL_law_1014 : decode cL_law 1014 = .ok (.invokevirtual 135, 3) := by sorry
theorem dL_law_1017 : decode cL_law 1017 = .ok (.aload_n 2, 1) := by sorry
theorem dL_law_1018 : decode cL_law 1018 = .ok (.aload_n 0, 1) := by sorry
theorem dL_law_1019 : decode cL_law 1019 = .ok (.iload_n 3, 1) := by sorry
theorem dL_law_1020 : decode cL_law 1020 = .ok (.iconst 1, 1) := by sorry
theorem dL_law_1021 : decode cL_law 1021 = .ok (.iadd, 1) := by sorry
theorem dL_law_1022 : decode cL_law 1022 = .ok (.iaload, 1) := by sorry
theorem dL_law_1023 : decode cL_law 1023 = .ok (.invokevirtual 138, 3) := by sorry
theorem dL_law_1026 : decode cL_law 1026 = .ok (.if_icmp .eq 42, 3) := by sorry
theorem dL_law_1029 : decode cL_law 1029 = .ok (.iconst 0, 1) := by sorry
theorem dL_law_1030 : decode cL_law 1030 = .ok (.ireturn, 1) := by sorry
theorem dL_law_1031 : decode cL_law 1031 = .ok (.aload_n 1, 1) := by sorry
theorem dL_law_1032 : decode cL_law 1032 = .ok (.aload_n 0, 1) := by sorry
theorem dL_law_1033 : decode cL_law 1033 = .ok (.iload_n 3, 1) := by sorry
theorem dL_law_1034 : decode cL_law 1034 = .ok (.iconst 1, 1) := by sorry
theorem dL_law_1035 : decode cL_law 1035 = .ok (.iadd, 1) := by sorry
theorem dL_law_1036 : decode cL_law 1036 = .ok (.iaload, 1) := by sorry
theorem dL_law_1037 : decode cL_law 1037 = .ok (.invokevirtual 139, 3) := by sorry
theorem dL_law_1040 : decode cL_law 1040 = .ok (.aload_n 2, 1) := by sorry
theorem dL_law_1041 : decode cL_law 1041 = .ok (.aload_n 0, 1) := by sorry
theorem dL_law_1042 : decode cL_law 1042 = .ok (.iload_n 3, 1) := by sorry
theorem dL_law_1043 : decode cL_law 1043 = .ok (.iconst 1, 1) := by sorry
theorem dL_law_1044 : decode cL_law 1044 = .ok (.iadd, 1) := by sorry
theorem dL_law_1045 : decode cL_law 1045 = .ok (.iaload, 1) := by sorry
theorem dL_law_1046 : decode cL_law 1046 = .ok (.invokevirtual 142, 3) := by sorry
theorem dL_law_1049 : decode cL_law 1049 = .ok (.if_icmp .eq 19, 3) := by sorry
theorem dL_law_1052 : decode cL_law 1052 = .ok (.iconst 0, 1) := by sorry
theorem dL_law_1053 : decode cL_law 1053 = .ok (.ireturn, 1) := by sorry
theorem dL_law_1054 : decode cL_law 1054 = .ok (.aload_n 1, 1) := by sorry
theorem dL_law_1055 : decode cL_law 1055 = .ok (.invokevirtual 143, 3) := by sorry
theorem dL_law_1058 : decode cL_law 1058 = .ok (.aload_n 2, 1) := by sorry
theorem dL_law_1059 : decode cL_law 1059 = .ok (.invokevirtual 146, 3) := by sorry
theorem dL_law_1062 : decode cL_law 1062 = .ok (.lcmp, 1) := by sorry
theorem dL_law_1063 : decode cL_law 1063 = .ok (.ifCond .eq 5, 3) := by sorry
theorem dL_law_1066 : decode cL_law 1066 = .ok (.iconst 0, 1) := by sorry
theorem dL_law_1067 : decode cL_law 1067 = .ok (.ireturn, 1) := by sorry
theorem dL_law_1068 : decode cL_law 1068 = .ok (.iinc 3 4, 3) := by sorry
theorem dL_law_1071 : decode cL_law 1071 = .ok (.goto (-1053), 3) := by sorry
theorem dL_law_1074 : decode cL_law 1074 = .ok (.iconst 1, 1) := by sorry
theorem dL_law_1075 : decode cL_law 1075 = .ok (.ireturn, 1) := by sorry
