theorem gq_X14_pays_h : GoodIn wsL_law [Cond.code yX14_pays cX14_pays 3 (some .int)] := goodIn_rr lwB_in _ [(50, 16)] (by decide +kernel) (by decide +kernel)
set_option maxRecDepth 20000 in
theorem gq_X14_pays_r1 : GoodIn wsL_law wsX14_pays_r1 := goodIn_rr lwB_in _ [(7, 19), (4, 15), (36, 23), (37, 0), (37, 1), (0, 5), (37, 2), (4, 10), (8, 19), (8, 20), (8, 21), (7, 21), (7, 22), (7, 23), (8, 0), (50, 17), (50, 18), (50, 19), (50, 20), (4, 16), (50, 2), (50, 3), (50, 4), (4, 14)] (by decide +kernel) (by decide +kernel)
set_option maxRecDepth 20000 in
theorem gq_X14_pays_r2 : GoodIn wsL_law wsX14_pays_r2 := goodIn_rr lwB_in _ [(50, 5), (47, 3), (5, 16), (5, 17), (5, 18), (5, 19), (5, 20), (5, 21), (5, 22), (5, 23), (6, 0), (6, 1), (6, 2), (6, 3), (6, 4), (6, 14), (6, 15), (6, 16), (6, 17), (6, 18), (6, 19), (6, 20), (6, 21), (46, 23)] (by decide +kernel) (by decide +kernel)
set_option maxRecDepth 20000 in
theorem gq_X14_pays_r3 : GoodIn wsL_law wsX14_pays_r3 := goodIn_rr lwB_in _ [(47, 0), (47, 1), (47, 2), (5, 14), (6, 5), (47, 4), (40, 9), (40, 10), (40, 11), (6, 6), (40, 12), (47, 5), (47, 6), (47, 7), (47, 8), (47, 9), (47, 10), (47, 11), (47, 12), (47, 13), (47, 14), (47, 15), (47, 16), (6, 8)] (by decide +kernel) (by decide +kernel)
set_option maxRecDepth 20000 in
theorem gq_X14_pays_r4 : GoodIn wsL_law wsX14_pays_r4 := goodIn_rr lwB_in _ [(47, 17), (47, 18), (47, 19), (47, 20), (47, 21), (47, 22), (47, 23), (35, 14), (35, 15), (35, 16), (48, 0), (48, 1), (28, 21), (17, 7), (14, 7), (17, 8), (48, 2), (14, 6), (14, 8), (48, 3), (48, 4), (48, 5), (48, 6), (48, 7)] (by decide +kernel) (by decide +kernel)
set_option maxRecDepth 20000 in
theorem gq_X14_pays_r5 : GoodIn wsL_law wsX14_pays_r5 := goodIn_rr lwB_in _ [(48, 8), (48, 9), (48, 10), (6, 7), (42, 6), (48, 11), (48, 12), (48, 13), (48, 14), (48, 15), (48, 16), (48, 17), (48, 18)] (by decide +kernel) (by decide +kernel)
theorem ggL_law_X14_pays : GoodIn wsL_law wsX14_pays := goodIn_cons gq_X14_pays_h (goodIn_app (goodIn_app (goodIn_app (goodIn_app gq_X14_pays_r1 (goodIn_app gq_X14_pays_r2 (goodIn_app gq_X14_pays_r3 (goodIn_app gq_X14_pays_r4 gq_X14_pays_r5)))) gq_X140) gq_X120) gq_X130)
set_option maxRecDepth 20000 in
theorem gL_law_X14_pays : GoodIn wsL_law (wsV RL 134 RX14 yX14_pays wsX14_pays) := goodIn_app (goodIn_rr lwB_in _ [(50, 13), (50, 14), (50, 15), (0, 5)] (by decide +kernel) (by decide +kernel)) ggL_law_X14_pays
