theorem gq_L_pass_h : GoodIn wsL_law [Cond.codeWith yL_pass cL_pass 4 (some .int) [(0, 9, 12, 19)]] := goodIn_rr lwB_in _ [(42, 10)] (by decide +kernel) (by decide +kernel)
set_option maxRecDepth 20000 in
theorem gq_L_pass_r1 : GoodIn wsL_law wsL_pass_r1 := goodIn_rr lwB_in _ [(8, 8), (42, 11), (42, 12), (42, 13), (0, 2), (42, 14), (0, 20), (42, 15), (42, 16), (42, 17), (8, 13), (8, 14), (42, 18), (42, 19), (42, 20), (0, 19), (42, 21), (1, 15), (15, 1), (2, 4), (15, 3), (1, 23), (15, 0), (1, 17)] (by decide +kernel) (by decide +kernel)
set_option maxRecDepth 20000 in
theorem gq_L_pass_r2 : GoodIn wsL_law wsL_pass_r2 := goodIn_rr lwB_in _ [(42, 22), (42, 23), (39, 20), (39, 21), (39, 22), (2, 5), (39, 23), (43, 0), (43, 1), (43, 2), (43, 3), (43, 4), (43, 5), (43, 6), (43, 7), (43, 8), (15, 2), (1, 21), (43, 9), (43, 10), (43, 11), (43, 12), (43, 13), (2, 3)] (by decide +kernel) (by decide +kernel)
set_option maxRecDepth 20000 in
theorem gq_L_pass_r3 : GoodIn wsL_law wsL_pass_r3 := goodIn_rr lwB_in _ [(43, 14), (43, 15), (43, 16), (2, 2), (43, 17), (20, 17), (43, 18), (2, 23), (3, 1), (3, 0), (43, 19), (43, 20), (15, 11), (15, 12), (15, 13), (15, 14), (15, 15), (15, 16), (43, 21), (43, 22), (43, 23), (44, 0), (44, 1), (44, 2)] (by decide +kernel) (by decide +kernel)
set_option maxRecDepth 20000 in
theorem gq_L_pass_r4 : GoodIn wsL_law wsL_pass_r4 := goodIn_rr lwB_in _ [(44, 3), (44, 4), (44, 5), (44, 6), (44, 7), (44, 8), (33, 1), (33, 2), (2, 8), (33, 3), (3, 6), (44, 9), (44, 10), (44, 11), (44, 12), (17, 7), (14, 7), (17, 8), (44, 13), (14, 6), (14, 8), (44, 14), (44, 15), (44, 16)] (by decide +kernel) (by decide +kernel)
set_option maxRecDepth 20000 in
theorem gq_L_pass_r5 : GoodIn wsL_law wsL_pass_r5 := goodIn_rr lwB_in _ [(44, 17), (1, 19), (33, 19), (44, 18), (44, 19), (44, 20), (44, 21), (23, 11), (23, 12), (2, 14), (23, 13), (23, 2), (3, 16), (33, 0), (44, 22), (44, 23), (45, 0), (45, 1), (45, 2), (45, 3), (45, 4), (45, 5), (45, 6), (45, 7)] (by decide +kernel) (by decide +kernel)
set_option maxRecDepth 20000 in
theorem gq_L_pass_r6 : GoodIn wsL_law wsL_pass_r6 := goodIn_rr lwB_in _ [(45, 8), (33, 13), (2, 6), (45, 9), (45, 10), (17, 6), (45, 11), (45, 12), (45, 13), (45, 14), (2, 11), (45, 15), (18, 23), (45, 16), (19, 4), (45, 17), (45, 18), (45, 19), (45, 20), (45, 21), (45, 22), (45, 23), (46, 0), (46, 1)] (by decide +kernel) (by decide +kernel)
set_option maxRecDepth 20000 in
theorem gq_L_pass_r7 : GoodIn wsL_law wsL_pass_r7 := goodIn_rr lwB_in _ [(46, 2), (46, 3), (46, 4), (46, 5), (46, 6), (46, 7), (46, 8), (38, 2), (38, 3), (38, 4), (3, 15), (46, 9), (46, 10), (46, 11), (46, 12), (33, 8), (46, 13), (46, 14), (46, 15), (46, 16), (46, 17), (46, 18)] (by decide +kernel) (by decide +kernel)
theorem ggL_law_L_pass : GoodIn wsL_law wsL_pass := goodIn_cons gq_L_pass_h (goodIn_app (goodIn_app (goodIn_app (goodIn_app (goodIn_app (goodIn_app (goodIn_app (goodIn_app (goodIn_app gq_L_pass_r1 (goodIn_app gq_L_pass_r2 (goodIn_app gq_L_pass_r3 (goodIn_app gq_L_pass_r4 (goodIn_app gq_L_pass_r5 (goodIn_app gq_L_pass_r6 gq_L_pass_r7)))))) gq_X110) gq_X70) gq_X30) gq_X20) gq_X90) gq_X10) gq_X50) gq_v1)
set_option maxRecDepth 20000 in
theorem gL_law_L_pass : GoodIn wsL_law (va_wsS RL 126 yL_pass wsL_pass) := goodIn_app (goodIn_rr lwB_in _ [(42, 8), (42, 9), (7, 0)] (by decide +kernel) (by decide +kernel)) ggL_law_L_pass
theorem gq_X14_pass_h : GoodIn wsL_law [Cond.code yX14_pass cX14_pass 4 (some .int)] := goodIn_rr lwB_in _ [(46, 22)] (by decide +kernel) (by decide +kernel)
set_option maxRecDepth 20000 in
theorem gq_X14_pass_r1 : GoodIn wsL_law wsX14_pass_r1 := goodIn_rr lwB_in _ [(7, 19), (4, 15), (8, 19), (8, 20), (0, 5), (8, 21), (7, 21), (7, 22), (7, 23), (8, 0), (34, 4), (34, 5), (34, 6), (4, 14), (34, 7), (46, 23), (47, 0), (47, 1), (47, 2), (5, 18), (5, 14), (6, 5), (5, 21), (5, 22)] (by decide +kernel) (by decide +kernel)
set_option maxRecDepth 20000 in
theorem gq_X14_pass_r2 : GoodIn wsL_law wsX14_pass_r2 := goodIn_rr lwB_in _ [(47, 3), (47, 4), (40, 9), (40, 10), (40, 11), (6, 6), (5, 16), (40, 12), (6, 18), (6, 19), (6, 20), (6, 21), (47, 5), (47, 6), (47, 7), (47, 8), (5, 23), (47, 9), (47, 10), (47, 11), (47, 12), (6, 1), (47, 13), (47, 14)] (by decide +kernel) (by decide +kernel)
set_option maxRecDepth 20000 in
theorem gq_X14_pass_r3 : GoodIn wsL_law wsX14_pass_r3 := goodIn_rr lwB_in _ [(47, 15), (47, 16), (6, 8), (47, 17), (47, 18), (47, 19), (47, 20), (47, 21), (47, 22), (5, 20), (47, 23), (35, 14), (35, 15), (35, 16), (5, 17), (48, 0), (48, 1), (28, 21), (17, 7), (14, 7), (17, 8), (48, 2), (14, 6), (14, 8)] (by decide +kernel) (by decide +kernel)
set_option maxRecDepth 20000 in
theorem gq_X14_pass_r4 : GoodIn wsL_law wsX14_pass_r4 := goodIn_rr lwB_in _ [(48, 3), (48, 4), (48, 5), (48, 6), (48, 7), (48, 8), (48, 9), (48, 10), (6, 7), (42, 6), (6, 0), (5, 19), (48, 11), (48, 12), (48, 13), (48, 14), (6, 2), (6, 3), (6, 4), (48, 15), (48, 16), (48, 17), (48, 18)] (by decide +kernel) (by decide +kernel)
theorem ggL_law_X14_pass : GoodIn wsL_law wsX14_pass := goodIn_cons gq_X14_pass_h (goodIn_app (goodIn_app (goodIn_app (goodIn_app gq_X14_pass_r1 (goodIn_app gq_X14_pass_r2 (goodIn_app gq_X14_pass_r3 gq_X14_pass_r4))) gq_X140) gq_X120) gq_X130)
set_option maxRecDepth 20000 in
theorem gL_law_X14_pass : GoodIn wsL_law (wsV RL 128 RX14 yX14_pass wsX14_pass) := goodIn_app (goodIn_rr lwB_in _ [(46, 19), (46, 20), (46, 21), (0, 5)] (by decide +kernel) (by decide +kernel)) ggL_law_X14_pass
