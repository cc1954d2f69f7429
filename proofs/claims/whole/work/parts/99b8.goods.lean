theorem gq_L_foresee_h : GoodIn wsL_law [Cond.codeWith yL_foresee cL_foresee 5 (some .int) [(0, 10, 13, 19), (0, 10, 17, 24)]] := goodIn_rr lwB_in _ [(48, 21)] (by decide +kernel) (by decide +kernel)
set_option maxRecDepth 20000 in
theorem gq_L_foresee_r1 : GoodIn wsL_law wsL_foresee_r1 := goodIn_rr lwB_in _ [(8, 8), (48, 22), (48, 23), (49, 0), (0, 2), (49, 1), (32, 14), (32, 15), (42, 15), (42, 16), (42, 17), (8, 13), (8, 14), (49, 2), (49, 3), (49, 4), (49, 5), (0, 21), (0, 20), (49, 6), (49, 7), (49, 8), (0, 19), (49, 9)] (by decide +kernel) (by decide +kernel)
set_option maxRecDepth 20000 in
theorem gq_L_foresee_r2 : GoodIn wsL_law wsL_foresee_r2 := goodIn_rr lwB_in _ [(42, 22), (1, 15), (15, 0), (15, 1), (15, 2), (15, 3), (1, 17), (1, 19), (1, 21), (1, 23), (2, 3), (17, 9), (17, 10), (17, 11), (2, 8), (17, 12), (17, 13), (17, 14), (17, 15), (3, 6), (18, 18), (18, 19), (18, 20), (2, 11)] (by decide +kernel) (by decide +kernel)
set_option maxRecDepth 20000 in
theorem gq_L_foresee_r3 : GoodIn wsL_law wsL_foresee_r3 := goodIn_rr lwB_in _ [(18, 21), (18, 22), (18, 23), (19, 0), (19, 1), (19, 2), (19, 3), (3, 10), (19, 4), (19, 5), (19, 6), (3, 11), (49, 10), (49, 11), (49, 12), (2, 17), (49, 13), (49, 14), (49, 15), (49, 16), (49, 17), (22, 20), (22, 21), (22, 22)] (by decide +kernel) (by decide +kernel)
set_option maxRecDepth 20000 in
theorem gq_L_foresee_r4 : GoodIn wsL_law wsL_foresee_r4 := goodIn_rr lwB_in _ [(2, 14), (22, 23), (3, 15), (23, 0), (23, 1), (23, 2), (23, 3), (23, 4), (23, 5), (3, 16), (49, 18), (49, 19), (49, 20), (2, 2), (49, 21), (20, 17), (2, 23), (3, 0), (42, 18), (42, 19), (42, 20), (42, 21), (2, 4), (42, 23)] (by decide +kernel) (by decide +kernel)
set_option maxRecDepth 20000 in
theorem gq_L_foresee_r5 : GoodIn wsL_law wsL_foresee_r5 := goodIn_rr lwB_in _ [(39, 20), (39, 21), (39, 22), (2, 5), (39, 23), (43, 0), (43, 1), (43, 2), (43, 3), (43, 4), (43, 5), (43, 6), (43, 7), (43, 8), (43, 9), (43, 10), (43, 11), (43, 12), (43, 13), (43, 14), (43, 15), (43, 16), (43, 17), (43, 18)] (by decide +kernel) (by decide +kernel)
set_option maxRecDepth 20000 in
theorem gq_L_foresee_r6 : GoodIn wsL_law wsL_foresee_r6 := goodIn_rr lwB_in _ [(3, 1), (43, 19), (43, 20), (15, 11), (15, 12), (15, 13), (15, 14), (15, 15), (15, 16), (43, 21), (43, 22), (43, 23), (44, 0), (44, 1), (44, 2), (44, 3), (44, 4), (44, 5), (44, 6), (44, 7), (44, 8), (33, 1), (33, 2), (33, 3)] (by decide +kernel) (by decide +kernel)
set_option maxRecDepth 20000 in
theorem gq_L_foresee_r7 : GoodIn wsL_law wsL_foresee_r7 := goodIn_rr lwB_in _ [(44, 9), (44, 10), (44, 11), (44, 12), (17, 7), (14, 7), (17, 8), (44, 13), (14, 6), (14, 8), (44, 14), (44, 15), (44, 16), (44, 17), (33, 19), (44, 18), (44, 19), (44, 20), (44, 21), (23, 11), (23, 12), (23, 13), (33, 0), (44, 22)] (by decide +kernel) (by decide +kernel)
set_option maxRecDepth 20000 in
theorem gq_L_foresee_r8 : GoodIn wsL_law wsL_foresee_r8 := goodIn_rr lwB_in _ [(44, 23), (45, 0), (45, 1), (45, 2), (45, 3), (45, 4), (45, 5), (45, 6), (45, 7), (45, 8), (33, 13), (2, 6), (45, 9), (45, 10), (17, 6), (45, 11), (45, 12), (45, 13), (45, 14), (45, 15), (45, 16), (45, 17), (45, 18), (45, 19)] (by decide +kernel) (by decide +kernel)
set_option maxRecDepth 20000 in
theorem gq_L_foresee_r9 : GoodIn wsL_law wsL_foresee_r9 := goodIn_rr lwB_in _ [(45, 20), (45, 21), (45, 22), (45, 23), (46, 0), (46, 1), (46, 2), (46, 3), (46, 4), (46, 5), (46, 6), (46, 7), (46, 8), (38, 2), (38, 3), (38, 4), (46, 9), (46, 10), (46, 11), (46, 12), (33, 8), (46, 13), (46, 14), (46, 15)] (by decide +kernel) (by decide +kernel)
set_option maxRecDepth 20000 in
theorem gq_L_foresee_r10 : GoodIn wsL_law wsL_foresee_r10 := goodIn_rr lwB_in _ [(46, 16), (46, 17), (46, 18), (33, 4), (33, 5), (33, 6), (33, 7), (32, 20), (32, 21), (32, 22), (32, 23), (41, 16), (41, 17), (41, 18), (41, 19), (41, 20)] (by decide +kernel) (by decide +kernel)
theorem ggL_law_L_foresee : GoodIn wsL_law wsL_foresee := goodIn_cons gq_L_foresee_h (goodIn_app (goodIn_app (goodIn_app (goodIn_app (goodIn_app (goodIn_app (goodIn_app (goodIn_app (goodIn_app (goodIn_app gq_L_foresee_r1 (goodIn_app gq_L_foresee_r2 (goodIn_app gq_L_foresee_r3 (goodIn_app gq_L_foresee_r4 (goodIn_app gq_L_foresee_r5 (goodIn_app gq_L_foresee_r6 (goodIn_app gq_L_foresee_r7 (goodIn_app gq_L_foresee_r8 (goodIn_app gq_L_foresee_r9 gq_L_foresee_r10))))))))) gq_X110) gq_X70) gq_X30) gq_X10) gq_X20) gq_X50) gq_X90) gq_v2) gq_v1)
set_option maxRecDepth 20000 in
theorem gL_law_L_foresee : GoodIn wsL_law (va_wsS RL 129 yL_foresee wsL_foresee) := goodIn_app (goodIn_rr lwB_in _ [(48, 19), (48, 20), (7, 0)] (by decide +kernel) (by decide +kernel)) ggL_law_L_foresee
