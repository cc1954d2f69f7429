theorem gq_X14_teach_h : GoodIn wsL_law [Cond.code yX14_teach cX14_teach 2 (some .int)] := goodIn_rr lwB_in _ [(23, 21)] (by decide +kernel) (by decide +kernel)
set_option maxRecDepth 20000 in
theorem gq_X14_teach_r1 : GoodIn wsL_law wsX14_teach_r1 := goodIn_rr lwB_in _ [(7, 19), (4, 1), (7, 20), (4, 11), (4, 10), (4, 15), (23, 22), (23, 23), (24, 0), (0, 5), (24, 1), (4, 7), (4, 8), (4, 9), (24, 2), (24, 3), (4, 3), (4, 6), (4, 17), (4, 18), (4, 19), (0, 11), (0, 12), (1, 7)] (by decide +kernel) (by decide +kernel)
set_option maxRecDepth 20000 in
theorem gq_X14_teach_r2 : GoodIn wsL_law wsX14_teach_r2 := goodIn_rr lwB_in _ [(4, 20), (4, 21), (4, 22), (4, 23), (5, 0), (5, 1), (5, 2), (5, 3), (5, 4), (5, 5), (5, 6), (5, 7), (5, 8), (5, 9), (5, 10), (5, 11), (24, 4), (24, 5), (24, 6), (24, 7), (4, 5), (4, 2), (4, 4), (24, 8)] (by decide +kernel) (by decide +kernel)
set_option maxRecDepth 20000 in
theorem gq_X14_teach_r3 : GoodIn wsL_law wsX14_teach_r3 := goodIn_rr lwB_in _ [(24, 9), (24, 10), (24, 11), (4, 0), (24, 12), (24, 13), (24, 14), (24, 15), (24, 16), (24, 17), (24, 18), (24, 19), (24, 20), (24, 21), (24, 22), (24, 23), (25, 0), (25, 1), (25, 2), (25, 3), (11, 2), (11, 3), (11, 4), (11, 5)] (by decide +kernel) (by decide +kernel)
set_option maxRecDepth 20000 in
theorem gq_X14_teach_r4 : GoodIn wsL_law wsX14_teach_r4 := goodIn_rr lwB_in _ [(11, 6), (11, 7), (11, 8), (11, 9), (11, 10), (11, 11), (11, 12), (25, 4), (11, 14), (11, 15), (11, 16), (11, 17), (11, 18), (11, 19), (11, 20), (11, 21), (11, 22), (11, 23), (12, 0), (12, 1), (12, 2), (12, 3), (12, 4), (12, 5)] (by decide +kernel) (by decide +kernel)
set_option maxRecDepth 20000 in
theorem gq_X14_teach_r5 : GoodIn wsL_law wsX14_teach_r5 := goodIn_rr lwB_in _ [(12, 6), (12, 7), (12, 8), (12, 9), (12, 10), (12, 11), (12, 12), (12, 13), (12, 14), (12, 15), (12, 16), (12, 17), (12, 18), (12, 19), (12, 20), (12, 21), (12, 22), (12, 23), (13, 0), (13, 1), (25, 5), (25, 6), (25, 7), (25, 8)] (by decide +kernel) (by decide +kernel)
set_option maxRecDepth 20000 in
theorem gq_X14_teach_r6 : GoodIn wsL_law wsX14_teach_r6 := goodIn_rr lwB_in _ [(25, 9), (25, 10), (25, 11), (25, 12), (25, 13), (25, 14), (25, 15), (25, 16), (25, 17), (14, 6), (14, 7), (14, 8), (25, 18), (17, 7), (17, 8), (25, 19), (25, 20), (25, 21), (25, 22), (25, 23), (26, 0), (26, 1), (26, 2), (26, 3)] (by decide +kernel) (by decide +kernel)
set_option maxRecDepth 20000 in
theorem gq_X14_teach_r7 : GoodIn wsL_law wsX14_teach_r7 := goodIn_rr lwB_in _ [(26, 4), (26, 5), (26, 6), (26, 7), (26, 8), (26, 9), (26, 10), (26, 11), (26, 12), (26, 13), (26, 14), (26, 15), (26, 16), (26, 17), (26, 18), (26, 19), (26, 20), (26, 21), (26, 22), (26, 23), (27, 0), (27, 1), (27, 2), (27, 3)] (by decide +kernel) (by decide +kernel)
set_option maxRecDepth 20000 in
theorem gq_X14_teach_r8 : GoodIn wsL_law wsX14_teach_r8 := goodIn_rr lwB_in _ [(27, 4), (27, 5), (27, 6), (27, 7), (27, 8), (27, 9), (27, 10), (27, 11), (27, 12), (27, 13), (27, 14), (27, 15), (27, 16), (27, 17), (27, 18), (27, 19), (27, 20), (27, 21), (27, 22), (27, 23), (28, 0), (28, 1), (28, 2), (28, 3)] (by decide +kernel) (by decide +kernel)
set_option maxRecDepth 20000 in
theorem gq_X14_teach_r9 : GoodIn wsL_law wsX14_teach_r9 := goodIn_rr lwB_in _ [(28, 4), (28, 5), (28, 6), (28, 7), (28, 8), (28, 9), (28, 10), (28, 11), (28, 12), (28, 13), (28, 14), (28, 15), (28, 16), (28, 17), (28, 18), (28, 19), (28, 20), (28, 21), (28, 22), (28, 23), (29, 0), (29, 1), (29, 2), (29, 3)] (by decide +kernel) (by decide +kernel)
set_option maxRecDepth 20000 in
theorem gq_X14_teach_r10 : GoodIn wsL_law wsX14_teach_r10 := goodIn_rr lwB_in _ [(29, 4), (29, 5), (29, 6), (29, 7), (29, 8), (29, 9), (29, 10), (29, 11), (29, 12), (29, 13), (29, 14), (29, 15), (29, 16), (29, 17), (29, 18), (29, 19), (29, 20), (29, 21), (29, 22), (29, 23), (30, 0), (30, 1), (30, 2), (30, 3)] (by decide +kernel) (by decide +kernel)
set_option maxRecDepth 20000 in
theorem gq_X14_teach_r11 : GoodIn wsL_law wsX14_teach_r11 := goodIn_rr lwB_in _ [(30, 4), (30, 5), (30, 6), (30, 7), (30, 8), (30, 9), (30, 10), (30, 11), (30, 12), (30, 13), (30, 14), (30, 15), (30, 16), (30, 17), (30, 18), (30, 19), (30, 20), (30, 21), (30, 22), (30, 23), (31, 0), (31, 1), (31, 2), (31, 3)] (by decide +kernel) (by decide +kernel)
set_option maxRecDepth 20000 in
theorem gq_X14_teach_r12 : GoodIn wsL_law wsX14_teach_r12 := goodIn_rr lwB_in _ [(31, 4), (31, 5), (31, 6), (31, 7), (31, 8), (31, 9), (31, 10), (31, 11), (31, 12), (31, 13), (8, 19), (8, 20), (8, 21), (31, 14), (31, 15), (31, 16), (31, 17), (31, 18), (31, 19), (31, 20), (31, 21), (6, 9), (6, 10), (6, 11)] (by decide +kernel) (by decide +kernel)
set_option maxRecDepth 20000 in
theorem gq_X14_teach_r13 : GoodIn wsL_law wsX14_teach_r13 := goodIn_rr lwB_in _ [(4, 14), (6, 12), (5, 14), (5, 17), (5, 20), (6, 13), (5, 18), (5, 19), (5, 21), (5, 22), (6, 0), (6, 1), (6, 2), (6, 3), (6, 4), (5, 23), (6, 14), (6, 15), (6, 16), (6, 17), (6, 18), (6, 19), (6, 20), (6, 21)] (by decide +kernel) (by decide +kernel)
theorem ggL_law_X14_teach : GoodIn wsL_law wsX14_teach := goodIn_cons gq_X14_teach_h (goodIn_app (goodIn_app (goodIn_app (goodIn_app gq_X14_teach_r1 (goodIn_app gq_X14_teach_r2 (goodIn_app gq_X14_teach_r3 (goodIn_app gq_X14_teach_r4 (goodIn_app gq_X14_teach_r5 (goodIn_app gq_X14_teach_r6 (goodIn_app gq_X14_teach_r7 (goodIn_app gq_X14_teach_r8 (goodIn_app gq_X14_teach_r9 (goodIn_app gq_X14_teach_r10 (goodIn_app gq_X14_teach_r11 (goodIn_app gq_X14_teach_r12 gq_X14_teach_r13)))))))))))) gq_X140) gq_X130) gq_X120)
set_option maxRecDepth 20000 in
theorem gL_law_X14_teach : GoodIn wsL_law (wsV RL 88 RX14 yX14_teach wsX14_teach) := goodIn_app (goodIn_rr lwB_in _ [(23, 18), (23, 19), (23, 20), (0, 5)] (by decide +kernel) (by decide +kernel)) ggL_law_X14_teach
