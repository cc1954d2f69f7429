theorem gq_X11_init_h : GoodIn wsL_law [Cond.code yX11_init cX11_init 1 none] := goodIn_rr lwB_in _ [(0, 9)] (by decide +kernel) (by decide +kernel)
set_option maxRecDepth 20000 in
theorem gq_X11_init_r1 : GoodIn wsL_law wsX11_init_r1 := goodIn_rr lwB_in _ [(0, 10), (0, 11), (0, 12), (0, 13), (0, 14), (0, 15), (0, 16), (0, 17), (0, 18), (0, 19), (0, 20), (0, 21), (0, 22), (0, 23), (1, 0), (1, 1), (1, 2), (1, 3), (1, 4), (1, 5), (1, 6), (1, 7), (1, 8), (0, 6)] (by decide +kernel) (by decide +kernel)
set_option maxRecDepth 20000 in
theorem gq_X11_init_r2 : GoodIn wsL_law wsX11_init_r2 := goodIn_rr lwB_in _ [(1, 9), (1, 10), (1, 11), (1, 12), (1, 13), (1, 14), (1, 15), (1, 16), (1, 17), (1, 18), (1, 19), (1, 20), (1, 21), (1, 22), (1, 23), (2, 0), (2, 1), (2, 2), (2, 3), (2, 4), (2, 5), (2, 6), (2, 7), (2, 8)] (by decide +kernel) (by decide +kernel)
set_option maxRecDepth 20000 in
theorem gq_X11_init_r3 : GoodIn wsL_law wsX11_init_r3 := goodIn_rr lwB_in _ [(2, 9), (2, 10), (2, 11), (2, 12), (2, 13), (2, 14), (2, 15), (2, 16), (2, 17), (2, 18), (2, 19), (2, 20), (2, 21), (2, 22), (2, 23), (3, 0), (3, 1), (3, 2), (3, 3), (3, 4), (3, 5), (3, 6), (3, 7), (3, 8)] (by decide +kernel) (by decide +kernel)
set_option maxRecDepth 20000 in
theorem gq_X11_init_r4 : GoodIn wsL_law wsX11_init_r4 := goodIn_rr lwB_in _ [(3, 9), (3, 10), (3, 11), (3, 12), (3, 13), (3, 14), (3, 15), (3, 16), (3, 17), (3, 18), (3, 19)] (by decide +kernel) (by decide +kernel)
theorem ggL_law_X11_init : GoodIn wsL_law wsX11_init := goodIn_cons gq_X11_init_h (goodIn_app (goodIn_app (goodIn_app (goodIn_app (goodIn_app (goodIn_app (goodIn_app (goodIn_app (goodIn_app gq_X11_init_r1 (goodIn_app gq_X11_init_r2 (goodIn_app gq_X11_init_r3 gq_X11_init_r4))) gq_X100) gq_X110) gq_X70) gq_X90) gq_X30) gq_X10) gq_X50) gq_X20)
set_option maxRecDepth 20000 in
theorem gL_law_X11_init : GoodIn wsL_law (wsX11_init) := ggL_law_X11_init
theorem gq_X14_init_h : GoodIn wsL_law [Cond.code yX14_init cX14_init 1 none] := goodIn_rr lwB_in _ [(3, 22)] (by decide +kernel) (by decide +kernel)
set_option maxRecDepth 20000 in
theorem gq_X14_init_r1 : GoodIn wsL_law wsX14_init_r1 := goodIn_rr lwB_in _ [(3, 23), (0, 11), (0, 12), (1, 7), (4, 0), (4, 1), (4, 2), (4, 3), (4, 4), (4, 5), (4, 6), (4, 7), (4, 8), (4, 9), (4, 10), (4, 11), (4, 12), (4, 13), (4, 14), (4, 15), (4, 16), (4, 17), (4, 18), (4, 19)] (by decide +kernel) (by decide +kernel)
set_option maxRecDepth 20000 in
theorem gq_X14_init_r2 : GoodIn wsL_law wsX14_init_r2 := goodIn_rr lwB_in _ [(4, 20), (4, 21), (4, 22), (4, 23), (5, 0), (5, 1), (5, 2), (5, 3), (5, 4), (5, 5), (5, 6), (5, 7), (5, 8), (5, 9), (5, 10), (5, 11), (5, 12), (5, 13), (5, 14), (5, 15), (5, 16), (5, 17), (5, 18), (5, 19)] (by decide +kernel) (by decide +kernel)
set_option maxRecDepth 20000 in
theorem gq_X14_init_r3 : GoodIn wsL_law wsX14_init_r3 := goodIn_rr lwB_in _ [(5, 20), (5, 21), (5, 22), (5, 23), (6, 0), (6, 1), (6, 2), (6, 3), (6, 4), (6, 5), (6, 6), (6, 7), (6, 8), (6, 9), (6, 10), (6, 11), (6, 12), (6, 13), (6, 14), (6, 15), (6, 16), (6, 17), (6, 18), (6, 19)] (by decide +kernel) (by decide +kernel)
set_option maxRecDepth 20000 in
theorem gq_X14_init_r4 : GoodIn wsL_law wsX14_init_r4 := goodIn_rr lwB_in _ [(6, 20), (6, 21)] (by decide +kernel) (by decide +kernel)
theorem ggL_law_X14_init : GoodIn wsL_law wsX14_init := goodIn_cons gq_X14_init_h (goodIn_app (goodIn_app (goodIn_app (goodIn_app gq_X14_init_r1 (goodIn_app gq_X14_init_r2 (goodIn_app gq_X14_init_r3 gq_X14_init_r4))) gq_X140) gq_X130) gq_X120)
set_option maxRecDepth 20000 in
theorem gL_law_X14_init : GoodIn wsL_law (wsX14_init) := ggL_law_X14_init
set_option maxRecDepth 20000 in
theorem ggL_law_L_feed : GoodIn wsL_law wsL_feed := goodIn_ca (goodIn_rr lwB_in _ [(7, 1), (7, 2), (7, 3), (7, 4), (7, 5), (0, 2), (7, 6), (7, 7), (7, 8), (0, 16), (7, 9), (7, 10), (7, 11), (7, 12), (0, 15), (7, 13), (7, 14), (1, 4), (53, 0), (53, 1), (53, 2), (53, 3), (55, 0), (55, 1), (55, 2), (55, 3), (55, 4), (55, 5)] (by decide +kernel) (by decide +kernel)) (goodIn_sub (fun _ h => List.mem_append_left _ (List.mem_append_left _ (List.mem_append_right _ h))) (by decide +kernel))
set_option maxRecDepth 20000 in
theorem gL_law_L_feed : GoodIn wsL_law (va_wsS RL 71 yL_feed wsL_feed) := goodIn_app (goodIn_rr lwB_in _ [(6, 22), (6, 23), (7, 0)] (by decide +kernel) (by decide +kernel)) ggL_law_L_feed
set_option maxRecDepth 20000 in
theorem ggL_law_X14_feed : GoodIn wsL_law wsX14_feed := goodIn_rr lwB_in _ [(7, 18), (7, 19), (7, 20), (1, 7), (4, 0), (7, 21), (7, 22), (7, 23), (0, 5), (8, 0), (54, 0), (54, 1), (54, 2), (54, 3), (54, 4), (54, 5), (54, 6), (54, 7), (54, 8), (54, 9), (54, 10), (54, 11), (54, 12), (54, 13), (54, 14)] (by decide +kernel) (by decide +kernel)
set_option maxRecDepth 20000 in
theorem gL_law_X14_feed : GoodIn wsL_law (wsV RL 76 RX14 yX14_feed wsX14_feed) := goodIn_app (goodIn_rr lwB_in _ [(7, 15), (7, 16), (7, 17), (0, 5)] (by decide +kernel) (by decide +kernel)) ggL_law_X14_feed
set_option maxRecDepth 20000 in
theorem ggL_law_X14_thrown : GoodIn wsL_law wsX14_thrown := goodIn_rr lwB_in _ [(8, 4), (7, 19), (54, 0), (54, 1), (54, 2), (54, 3), (54, 4), (54, 5), (54, 6), (54, 7), (54, 8), (54, 9), (54, 10), (54, 11), (54, 12), (54, 13), (54, 14)] (by decide +kernel) (by decide +kernel)
set_option maxRecDepth 20000 in
theorem gL_law_X14_thrown : GoodIn wsL_law (wsV RL 77 RX14 yX14_thrown wsX14_thrown) := goodIn_app (goodIn_rr lwB_in _ [(8, 1), (8, 2), (8, 3), (0, 5)] (by decide +kernel) (by decide +kernel)) ggL_law_X14_thrown
set_option maxRecDepth 20000 in
theorem ggL_law_L_trim : GoodIn wsL_law wsL_trim := goodIn_ca (goodIn_rr lwB_in _ [(8, 7), (8, 8), (8, 9), (8, 10), (8, 11), (0, 2), (8, 12), (8, 13), (8, 14), (0, 16), (7, 9), (53, 0), (53, 1), (53, 2), (53, 3), (55, 0), (55, 1), (55, 2), (55, 3), (55, 4), (55, 5)] (by decide +kernel) (by decide +kernel)) (goodIn_sub (fun _ h => List.mem_append_left _ (List.mem_append_right _ h)) (by decide +kernel))
set_option maxRecDepth 20000 in
theorem gL_law_L_trim : GoodIn wsL_law (va_wsS RL 81 yL_trim wsL_trim) := goodIn_app (goodIn_rr lwB_in _ [(8, 5), (8, 6), (7, 0)] (by decide +kernel) (by decide +kernel)) ggL_law_L_trim
set_option maxRecDepth 20000 in
theorem ggL_law_X14_trim : GoodIn wsL_law wsX14_trim := goodIn_rr lwB_in _ [(8, 18), (7, 19), (7, 20), (8, 19), (8, 20), (0, 5), (8, 21), (7, 21), (7, 22), (7, 23), (8, 0), (54, 0), (54, 1), (54, 2), (54, 3), (54, 4), (54, 5), (54, 6), (54, 7), (54, 8), (54, 9), (54, 10), (54, 11), (54, 12), (54, 13), (54, 14)] (by decide +kernel) (by decide +kernel)
set_option maxRecDepth 20000 in
theorem gL_law_X14_trim : GoodIn wsL_law (wsV RL 84 RX14 yX14_trim wsX14_trim) := goodIn_app (goodIn_rr lwB_in _ [(8, 15), (8, 16), (8, 17), (0, 5)] (by decide +kernel) (by decide +kernel)) ggL_law_X14_trim
