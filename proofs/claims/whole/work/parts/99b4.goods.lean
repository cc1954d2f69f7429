set_option maxRecDepth 20000 in
theorem ggL_law_X11_errorAt : GoodIn wsL_law wsX11_errorAt := goodIn_rr lwB_in _ [(32, 1), (0, 22), (53, 0), (53, 1), (53, 2), (53, 3)] (by decide +kernel) (by decide +kernel)
set_option maxRecDepth 20000 in
theorem gL_law_X11_errorAt : GoodIn wsL_law (wsV RL 89 RX11 yX11_errorAt wsX11_errorAt) := goodIn_app (goodIn_rr lwB_in _ [(31, 22), (31, 23), (32, 0), (0, 2)] (by decide +kernel) (by decide +kernel)) ggL_law_X11_errorAt
set_option maxRecDepth 20000 in
theorem ggL_law_X14_errorAt : GoodIn wsL_law wsX14_errorAt := goodIn_rr lwB_in _ [(32, 5), (7, 19), (4, 1), (54, 0), (54, 1), (54, 2), (54, 3), (54, 4), (54, 5), (54, 6), (54, 7), (54, 8), (54, 9), (54, 10), (54, 11), (54, 12), (54, 13), (54, 14)] (by decide +kernel) (by decide +kernel)
set_option maxRecDepth 20000 in
theorem gL_law_X14_errorAt : GoodIn wsL_law (wsV RL 92 RX14 yX14_errorAt wsX14_errorAt) := goodIn_app (goodIn_rr lwB_in _ [(32, 2), (32, 3), (32, 4), (0, 5)] (by decide +kernel) (by decide +kernel)) ggL_law_X14_errorAt
theorem gq_L_count_h : GoodIn wsL_law [Cond.codeWith yL_count cL_count 4 (some .int) [(0, 9, 12, 24)]] := goodIn_rr lwB_in _ [(32, 8)] (by decide +kernel) (by decide +kernel)
set_option maxRecDepth 20000 in
theorem gq_L_count_r1 : GoodIn wsL_law wsL_count_r1 := goodIn_rr lwB_in _ [(32, 9), (32, 10), (32, 11), (32, 12), (0, 2), (32, 13), (32, 14), (32, 15), (0, 20), (9, 6), (32, 16), (32, 17), (32, 18), (32, 19), (0, 16), (7, 9), (32, 20), (32, 21), (32, 22), (0, 19), (32, 23), (15, 0), (1, 17), (33, 0)] (by decide +kernel) (by decide +kernel)
set_option maxRecDepth 20000 in
theorem gq_L_count_r2 : GoodIn wsL_law wsL_count_r2 := goodIn_rr lwB_in _ [(33, 1), (33, 2), (2, 8), (33, 3), (3, 6), (33, 4), (33, 5), (33, 6), (33, 7), (15, 1), (1, 19), (33, 8), (33, 9), (33, 10), (33, 11), (33, 12), (33, 13), (33, 14), (33, 15), (33, 16), (33, 17), (33, 18), (33, 19)] (by decide +kernel) (by decide +kernel)
theorem ggL_law_L_count : GoodIn wsL_law wsL_count := goodIn_cons gq_L_count_h (goodIn_app (goodIn_app (goodIn_app (goodIn_app (goodIn_app (goodIn_app (goodIn_app gq_L_count_r1 gq_L_count_r2) gq_X110) gq_X70) gq_X100) gq_X30) gq_X10) gq_v2)
set_option maxRecDepth 20000 in
theorem gL_law_L_count : GoodIn wsL_law (va_wsS RL 93 yL_count wsL_count) := goodIn_app (goodIn_rr lwB_in _ [(32, 6), (32, 7), (7, 0)] (by decide +kernel) (by decide +kernel)) ggL_law_L_count
set_option maxRecDepth 20000 in
theorem ggL_law_X14_count : GoodIn wsL_law wsX14_count := goodIn_rr lwB_in _ [(33, 23), (7, 19), (8, 19), (8, 20), (0, 5), (8, 21), (34, 0), (34, 1), (34, 2), (34, 3), (4, 10), (4, 15), (1, 7), (7, 20), (34, 4), (34, 5), (34, 6), (4, 14), (34, 7), (7, 21), (7, 22), (7, 23), (8, 0), (54, 0), (54, 1), (54, 2), (54, 3), (54, 4), (54, 5), (54, 6), (54, 7), (54, 8), (54, 9), (54, 10), (54, 11), (54, 12), (54, 13), (54, 14), (62, 0), (62, 1), (62, 2), (62, 3), (62, 4), (62, 5), (62, 6), (62, 7), (62, 8), (62, 9), (62, 10), (62, 11), (62, 12), (62, 13), (62, 14), (62, 15), (62, 16), (62, 17), (62, 18), (62, 19), (62, 20), (62, 21), (62, 22), (62, 23), (62, 24), (63, 0), (63, 1), (63, 2), (63, 3), (63, 4), (63, 5), (63, 6), (63, 7), (63, 8), (63, 9), (63, 10), (63, 11), (63, 12), (63, 13), (63, 14), (63, 15), (63, 16), (63, 17), (63, 18)] (by decide +kernel) (by decide +kernel)
set_option maxRecDepth 20000 in
theorem gL_law_X14_count : GoodIn wsL_law (wsV RL 95 RX14 yX14_count wsX14_count) := goodIn_app (goodIn_rr lwB_in _ [(33, 20), (33, 21), (33, 22), (0, 5)] (by decide +kernel) (by decide +kernel)) ggL_law_X14_count
theorem gq_L_ground_h : GoodIn wsL_law [Cond.codeWith yL_ground cL_ground 5 (some .int) [(0, 10, 13, 24)]] := goodIn_rr lwB_in _ [(34, 10)] (by decide +kernel) (by decide +kernel)
set_option maxRecDepth 20000 in
theorem gq_L_ground_r1 : GoodIn wsL_law wsL_ground_r1 := goodIn_rr lwB_in _ [(32, 9), (34, 11), (34, 12), (34, 13), (0, 2), (34, 14), (32, 14), (32, 15), (0, 20), (34, 15), (34, 16), (34, 17), (34, 18), (34, 19), (34, 20), (34, 21), (34, 22), (34, 23), (32, 16), (35, 0), (33, 1), (33, 2), (2, 8), (33, 3)] (by decide +kernel) (by decide +kernel)
set_option maxRecDepth 20000 in
theorem gq_L_ground_r2 : GoodIn wsL_law wsL_ground_r2 := goodIn_rr lwB_in _ [(3, 6)] (by decide +kernel) (by decide +kernel)
theorem ggL_law_L_ground : GoodIn wsL_law wsL_ground := goodIn_cons gq_L_ground_h (goodIn_app (goodIn_app (goodIn_app (goodIn_app (goodIn_app gq_L_ground_r1 gq_L_ground_r2) gq_X110) gq_X70) gq_X30) gq_v2)
set_option maxRecDepth 20000 in
theorem gL_law_L_ground : GoodIn wsL_law (va_wsS RL 96 yL_ground wsL_ground) := goodIn_app (goodIn_rr lwB_in _ [(34, 8), (34, 9), (7, 0)] (by decide +kernel) (by decide +kernel)) ggL_law_L_ground
theorem gq_X14_ground_h : GoodIn wsL_law [Cond.code yX14_ground cX14_ground 3 (some .int)] := goodIn_rr lwB_in _ [(35, 4)] (by decide +kernel) (by decide +kernel)
set_option maxRecDepth 20000 in
theorem gq_X14_ground_r1 : GoodIn wsL_law wsX14_ground_r1 := goodIn_rr lwB_in _ [(7, 19), (35, 5), (35, 6), (35, 7), (0, 5), (35, 8), (4, 10), (8, 19), (8, 20), (8, 21), (35, 9), (35, 10), (35, 11), (35, 12), (4, 15), (35, 13), (35, 14), (35, 15), (4, 14), (35, 16), (5, 17), (35, 17), (35, 18), (35, 19)] (by decide +kernel) (by decide +kernel)
set_option maxRecDepth 20000 in
theorem gq_X14_ground_r2 : GoodIn wsL_law wsX14_ground_r2 := goodIn_rr lwB_in _ [(35, 20), (7, 21), (7, 22), (7, 23), (8, 0)] (by decide +kernel) (by decide +kernel)
theorem ggL_law_X14_ground : GoodIn wsL_law wsX14_ground := goodIn_cons gq_X14_ground_h (goodIn_app (goodIn_app (goodIn_app (goodIn_app gq_X14_ground_r1 gq_X14_ground_r2) gq_X140) gq_X130) gq_X120)
set_option maxRecDepth 20000 in
theorem gL_law_X14_ground : GoodIn wsL_law (wsV RL 99 RX14 yX14_ground wsX14_ground) := goodIn_app (goodIn_rr lwB_in _ [(35, 1), (35, 2), (35, 3), (0, 5)] (by decide +kernel) (by decide +kernel)) ggL_law_X14_ground
theorem gq_L_fisher_h : GoodIn wsL_law [Cond.codeWith yL_fisher cL_fisher 5 (some .int) [(0, 10, 13, 24)]] := goodIn_rr lwB_in _ [(35, 23)] (by decide +kernel) (by decide +kernel)
set_option maxRecDepth 20000 in
theorem gq_L_fisher_r1 : GoodIn wsL_law wsL_fisher_r1 := goodIn_rr lwB_in _ [(32, 9), (36, 0), (36, 1), (36, 2), (0, 2), (36, 3), (32, 14), (32, 15), (0, 20), (36, 4), (36, 5), (36, 6), (36, 7), (36, 8), (36, 9), (36, 10), (36, 11), (36, 12), (36, 13), (36, 14), (36, 15), (36, 16), (36, 17), (36, 18)] (by decide +kernel) (by decide +kernel)
set_option maxRecDepth 20000 in
theorem gq_L_fisher_r2 : GoodIn wsL_law wsL_fisher_r2 := goodIn_rr lwB_in _ [(32, 17)] (by decide +kernel) (by decide +kernel)
theorem ggL_law_L_fisher : GoodIn wsL_law wsL_fisher := goodIn_cons gq_L_fisher_h (goodIn_app (goodIn_app (goodIn_app (goodIn_app (goodIn_app gq_L_fisher_r1 gq_L_fisher_r2) gq_X110) gq_X70) gq_X10) gq_v2)
set_option maxRecDepth 20000 in
theorem gL_law_L_fisher : GoodIn wsL_law (va_wsS RL 100 yL_fisher wsL_fisher) := goodIn_app (goodIn_rr lwB_in _ [(35, 21), (35, 22), (7, 0)] (by decide +kernel) (by decide +kernel)) ggL_law_L_fisher
set_option maxRecDepth 20000 in
theorem ggL_law_X14_fisher : GoodIn wsL_law wsX14_fisher := goodIn_rr lwB_in _ [(36, 22), (7, 19), (36, 23), (37, 0), (37, 1), (0, 5), (37, 2), (4, 10), (8, 19), (8, 20), (8, 21), (37, 3), (37, 4), (37, 5), (37, 6), (1, 7), (4, 15), (37, 7), (37, 8), (37, 9), (37, 10), (7, 21), (7, 22), (7, 23), (8, 0), (54, 0), (54, 1), (54, 2), (54, 3), (54, 4), (54, 5), (54, 6), (54, 7), (54, 8), (54, 9), (54, 10), (54, 11), (54, 12), (54, 13), (54, 14), (62, 0), (62, 1), (62, 2), (62, 3), (62, 4), (62, 5), (62, 6), (62, 7), (62, 8), (62, 9), (62, 10), (62, 11), (62, 12), (62, 13), (62, 14), (62, 15), (62, 16), (62, 17), (62, 18), (62, 19), (62, 20), (62, 21), (62, 22), (62, 23), (62, 24), (63, 0), (63, 1), (63, 2), (63, 3), (63, 4), (63, 5), (63, 6), (63, 7), (63, 8), (63, 9), (63, 10), (63, 11), (63, 12), (63, 13), (63, 14), (63, 15), (63, 16), (63, 17), (63, 18)] (by decide +kernel) (by decide +kernel)
set_option maxRecDepth 20000 in
theorem gL_law_X14_fisher : GoodIn wsL_law (wsV RL 102 RX14 yX14_fisher wsX14_fisher) := goodIn_app (goodIn_rr lwB_in _ [(36, 19), (36, 20), (36, 21), (0, 5)] (by decide +kernel) (by decide +kernel)) ggL_law_X14_fisher
set_option maxRecDepth 20000 in
theorem ggL_law_L_pact : GoodIn wsL_law wsL_pact := goodIn_ca (goodIn_rr lwB_in _ [(37, 13), (32, 9), (37, 14), (37, 15), (37, 16), (0, 2), (37, 17), (32, 14), (32, 15), (0, 20), (32, 19), (37, 18), (37, 19), (37, 20), (37, 21), (37, 22), (37, 23), (38, 0), (38, 1), (38, 2), (38, 3), (2, 14), (38, 4), (3, 15), (53, 0), (53, 1), (53, 2), (53, 3), (56, 0), (56, 1), (56, 2), (56, 3), (56, 4), (56, 5), (56, 6), (56, 7), (56, 8), (56, 9), (56, 10), (56, 11), (56, 12), (56, 13), (56, 14), (56, 15), (56, 16), (60, 0), (60, 1), (60, 2), (60, 3), (60, 4), (60, 5), (60, 6), (60, 7)] (by decide +kernel) (by decide +kernel)) (goodIn_sub (fun _ h => List.mem_append_right _ h) (by decide +kernel))
set_option maxRecDepth 20000 in
theorem gL_law_L_pact : GoodIn wsL_law (va_wsS RL 103 yL_pact wsL_pact) := goodIn_app (goodIn_rr lwB_in _ [(37, 11), (37, 12), (7, 0)] (by decide +kernel) (by decide +kernel)) ggL_law_L_pact
