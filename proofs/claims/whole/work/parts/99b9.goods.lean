theorem gq_X14_foresee_h : GoodIn wsL_law [Cond.code yX14_foresee cX14_foresee 4 (some .int)] := goodIn_rr lwB_in _ [(50, 1)] (by decide +kernel) (by decide +kernel)
set_option maxRecDepth 20000 in
theorem gq_X14_foresee_r1 : GoodIn wsL_law wsX14_foresee_r1 := goodIn_rr lwB_in _ [(7, 19), (4, 16), (4, 15), (8, 19), (8, 20), (0, 5), (8, 21), (7, 21), (7, 22), (7, 23), (8, 0), (50, 2), (50, 3), (50, 4), (4, 14), (50, 5), (47, 3), (5, 16), (5, 17), (5, 18), (5, 19), (5, 20), (5, 21), (5, 22)] (by decide +kernel) (by decide +kernel)
set_option maxRecDepth 20000 in
theorem gq_X14_foresee_r2 : GoodIn wsL_law wsX14_foresee_r2 := goodIn_rr lwB_in _ [(5, 23), (6, 0), (6, 1), (6, 2), (6, 3), (6, 4), (6, 14), (6, 15), (6, 16), (6, 17), (6, 18), (6, 19), (6, 20), (6, 21), (46, 23), (47, 0), (47, 1), (47, 2), (5, 14), (6, 5), (47, 4), (40, 9), (40, 10), (40, 11)] (by decide +kernel) (by decide +kernel)
set_option maxRecDepth 20000 in
theorem gq_X14_foresee_r3 : GoodIn wsL_law wsX14_foresee_r3 := goodIn_rr lwB_in _ [(6, 6), (40, 12), (47, 5), (47, 6), (47, 7), (47, 8), (47, 9), (47, 10), (47, 11), (47, 12), (47, 13), (47, 14), (47, 15), (47, 16), (6, 8), (47, 17), (47, 18), (47, 19), (47, 20), (47, 21), (47, 22), (47, 23), (35, 14), (35, 15)] (by decide +kernel) (by decide +kernel)
set_option maxRecDepth 20000 in
theorem gq_X14_foresee_r4 : GoodIn wsL_law wsX14_foresee_r4 := goodIn_rr lwB_in _ [(35, 16), (48, 0), (48, 1), (28, 21), (17, 7), (14, 7), (17, 8), (48, 2), (14, 6), (14, 8), (48, 3), (48, 4), (48, 5), (48, 6), (48, 7), (48, 8), (48, 9), (48, 10), (6, 7), (42, 6), (48, 11), (48, 12), (48, 13), (48, 14)] (by decide +kernel) (by decide +kernel)
set_option maxRecDepth 20000 in
theorem gq_X14_foresee_r5 : GoodIn wsL_law wsX14_foresee_r5 := goodIn_rr lwB_in _ [(48, 15), (48, 16), (48, 17), (48, 18), (34, 4), (34, 5), (34, 6), (34, 7), (42, 1), (42, 2), (42, 3), (42, 4), (42, 5), (42, 7)] (by decide +kernel) (by decide +kernel)
theorem ggL_law_X14_foresee : GoodIn wsL_law wsX14_foresee := goodIn_cons gq_X14_foresee_h (goodIn_app (goodIn_app (goodIn_app (goodIn_app gq_X14_foresee_r1 (goodIn_app gq_X14_foresee_r2 (goodIn_app gq_X14_foresee_r3 (goodIn_app gq_X14_foresee_r4 gq_X14_foresee_r5)))) gq_X140) gq_X120) gq_X130)
set_option maxRecDepth 20000 in
theorem gL_law_X14_foresee : GoodIn wsL_law (wsV RL 131 RX14 yX14_foresee wsX14_foresee) := goodIn_app (goodIn_rr lwB_in _ [(49, 22), (49, 23), (50, 0), (0, 5)] (by decide +kernel) (by decide +kernel)) ggL_law_X14_foresee
