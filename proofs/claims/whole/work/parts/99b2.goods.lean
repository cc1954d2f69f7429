theorem gq_X11_teach_h : GoodIn wsL_law [Cond.code yX11_teach cX11_teach 4 (some .int)] := goodIn_rr lwB_in _ [(9, 1)] (by decide +kernel) (by decide +kernel)
set_option maxRecDepth 20000 in
theorem gq_X11_teach_r1 : GoodIn wsL_law wsX11_teach_r1 := goodIn_rr lwB_in _ [(0, 16), (9, 2), (9, 3), (9, 4), (0, 21), (9, 5), (0, 22), (7, 9), (0, 20), (9, 6), (9, 7), (9, 8), (9, 9), (9, 10), (0, 15), (9, 11), (9, 12), (1, 8), (1, 6), (7, 14), (9, 13), (1, 10), (9, 14), (9, 15)] (by decide +kernel) (by decide +kernel)
set_option maxRecDepth 20000 in
theorem gq_X11_teach_r2 : GoodIn wsL_law wsX11_teach_r2 := goodIn_rr lwB_in _ [(9, 16), (9, 17), (9, 18), (9, 19), (9, 20), (9, 21), (1, 4), (9, 22), (9, 23), (10, 0), (10, 1), (10, 2), (10, 3), (10, 4), (10, 5), (10, 6), (10, 7), (10, 8), (10, 9), (10, 10), (1, 9), (10, 11), (10, 12), (10, 13)] (by decide +kernel) (by decide +kernel)
set_option maxRecDepth 20000 in
theorem gq_X11_teach_r3 : GoodIn wsL_law wsX11_teach_r3 := goodIn_rr lwB_in _ [(10, 14), (10, 15), (10, 16), (10, 17), (10, 18), (10, 19), (10, 20), (10, 21), (10, 22), (10, 23), (11, 0), (11, 1), (11, 2), (11, 3), (11, 4), (11, 5), (11, 6), (11, 7), (11, 8), (11, 9), (11, 10), (11, 11), (11, 12), (11, 13)] (by decide +kernel) (by decide +kernel)
set_option maxRecDepth 20000 in
theorem gq_X11_teach_r4 : GoodIn wsL_law wsX11_teach_r4 := goodIn_rr lwB_in _ [(11, 14), (11, 15), (11, 16), (11, 17), (11, 18), (11, 19), (11, 20), (11, 21), (11, 22), (11, 23), (12, 0), (12, 1), (12, 2), (12, 3), (12, 4), (12, 5), (12, 6), (12, 7), (12, 8), (12, 9), (12, 10), (12, 11), (12, 12), (12, 13)] (by decide +kernel) (by decide +kernel)
set_option maxRecDepth 20000 in
theorem gq_X11_teach_r5 : GoodIn wsL_law wsX11_teach_r5 := goodIn_rr lwB_in _ [(12, 14), (12, 15), (12, 16), (12, 17), (12, 18), (12, 19), (12, 20), (12, 21), (12, 22), (12, 23), (13, 0), (13, 1), (13, 2), (13, 3), (13, 4), (13, 5), (13, 6), (13, 7), (13, 8), (13, 9), (13, 10), (13, 11), (13, 12), (13, 13)] (by decide +kernel) (by decide +kernel)
set_option maxRecDepth 20000 in
theorem gq_X11_teach_r6 : GoodIn wsL_law wsX11_teach_r6 := goodIn_rr lwB_in _ [(13, 14), (13, 15), (0, 11), (0, 12), (13, 16), (13, 17), (13, 18), (13, 19), (13, 20), (13, 21), (13, 22), (13, 23), (14, 0), (14, 1), (14, 2), (14, 3), (14, 4), (14, 5), (14, 6), (14, 7), (14, 8), (0, 6), (14, 9), (14, 10)] (by decide +kernel) (by decide +kernel)
set_option maxRecDepth 20000 in
theorem gq_X11_teach_r7 : GoodIn wsL_law wsX11_teach_r7 := goodIn_rr lwB_in _ [(14, 11), (14, 12), (14, 13), (14, 14), (14, 15), (14, 16), (14, 17), (14, 18), (14, 19), (14, 20), (14, 21), (14, 22), (0, 19), (14, 23), (15, 0), (15, 1), (15, 2), (15, 3), (2, 3), (15, 4), (15, 5), (15, 6), (15, 7), (15, 8)] (by decide +kernel) (by decide +kernel)
set_option maxRecDepth 20000 in
theorem gq_X11_teach_r8 : GoodIn wsL_law wsX11_teach_r8 := goodIn_rr lwB_in _ [(15, 9), (15, 10), (15, 11), (15, 12), (15, 13), (15, 14), (15, 15), (15, 16), (15, 17), (15, 18), (15, 19), (15, 20), (15, 21), (15, 22), (15, 23), (16, 0), (16, 1), (16, 2), (16, 3), (16, 4), (16, 5), (16, 6), (16, 7), (16, 8)] (by decide +kernel) (by decide +kernel)
set_option maxRecDepth 20000 in
theorem gq_X11_teach_r9 : GoodIn wsL_law wsX11_teach_r9 := goodIn_rr lwB_in _ [(16, 9), (16, 10), (16, 11), (16, 12), (16, 13), (16, 14), (16, 15), (16, 16), (16, 17), (16, 18), (16, 19), (16, 20), (16, 21), (16, 22), (16, 23), (17, 0), (17, 1), (17, 2), (17, 3), (17, 4), (17, 5), (17, 6), (17, 7), (17, 8)] (by decide +kernel) (by decide +kernel)
set_option maxRecDepth 20000 in
theorem gq_X11_teach_r10 : GoodIn wsL_law wsX11_teach_r10 := goodIn_rr lwB_in _ [(1, 17), (2, 9), (17, 9), (17, 10), (17, 11), (2, 8), (17, 12), (17, 13), (17, 14), (17, 15), (3, 6), (17, 16), (17, 17), (17, 18), (17, 19), (17, 20), (17, 21), (17, 22), (17, 23), (18, 0), (18, 1), (18, 2), (18, 3), (18, 4)] (by decide +kernel) (by decide +kernel)
set_option maxRecDepth 20000 in
theorem gq_X11_teach_r11 : GoodIn wsL_law wsX11_teach_r11 := goodIn_rr lwB_in _ [(18, 5), (18, 6), (18, 7), (18, 8), (18, 9), (18, 10), (18, 11), (18, 12), (18, 13), (18, 14), (18, 15), (18, 16), (18, 17), (1, 19), (2, 12), (18, 18), (18, 19), (18, 20), (2, 11), (18, 21), (18, 22), (18, 23), (19, 0), (19, 1)] (by decide +kernel) (by decide +kernel)
set_option maxRecDepth 20000 in
theorem gq_X11_teach_r12 : GoodIn wsL_law wsX11_teach_r12 := goodIn_rr lwB_in _ [(19, 2), (19, 3), (3, 10), (19, 4), (19, 5), (19, 6), (3, 11), (19, 7), (19, 8), (19, 9), (19, 10), (19, 11), (19, 12), (19, 13), (19, 14), (19, 15), (19, 16), (19, 17), (19, 18), (19, 19), (19, 20), (19, 21), (19, 22), (19, 23)] (by decide +kernel) (by decide +kernel)
set_option maxRecDepth 20000 in
theorem gq_X11_teach_r13 : GoodIn wsL_law wsX11_teach_r13 := goodIn_rr lwB_in _ [(20, 0), (1, 21), (20, 1), (20, 2), (20, 3), (20, 4), (20, 5), (20, 6), (20, 7), (20, 8), (20, 9), (20, 10), (20, 11), (20, 12), (20, 13), (20, 14), (20, 15), (2, 2), (20, 16), (20, 17), (2, 23), (3, 0), (20, 18), (20, 19)] (by decide +kernel) (by decide +kernel)
set_option maxRecDepth 20000 in
theorem gq_X11_teach_r14 : GoodIn wsL_law wsX11_teach_r14 := goodIn_rr lwB_in _ [(20, 20), (20, 21), (20, 22), (20, 23), (21, 0), (21, 1), (21, 2), (21, 3), (21, 4), (21, 5), (21, 6), (21, 7), (21, 8), (21, 9), (21, 10), (21, 11), (21, 12), (21, 13), (21, 14), (21, 15), (21, 16), (21, 17), (21, 18), (21, 19)] (by decide +kernel) (by decide +kernel)
set_option maxRecDepth 20000 in
theorem gq_X11_teach_r15 : GoodIn wsL_law wsX11_teach_r15 := goodIn_rr lwB_in _ [(21, 20), (21, 21), (21, 22), (21, 23), (22, 0), (22, 1), (22, 2), (22, 3), (22, 4), (22, 5), (22, 6), (22, 7), (22, 8), (22, 9), (22, 10), (22, 11), (22, 12), (22, 13), (22, 14), (22, 15), (22, 16), (22, 17), (22, 18), (22, 19)] (by decide +kernel) (by decide +kernel)
set_option maxRecDepth 20000 in
theorem gq_X11_teach_r16 : GoodIn wsL_law wsX11_teach_r16 := goodIn_rr lwB_in _ [(1, 23), (2, 15), (22, 20), (22, 21), (22, 22), (2, 14), (22, 23), (3, 15), (23, 0), (23, 1), (23, 2), (23, 3), (23, 4), (23, 5), (3, 16), (23, 6), (23, 7), (23, 8), (23, 9), (23, 10), (23, 11), (23, 12), (23, 13), (23, 14)] (by decide +kernel) (by decide +kernel)
set_option maxRecDepth 20000 in
theorem gq_X11_teach_r17 : GoodIn wsL_law wsX11_teach_r17 := goodIn_rr lwB_in _ [(23, 15), (23, 16), (23, 17)] (by decide +kernel) (by decide +kernel)
theorem ggL_law_X11_teach : GoodIn wsL_law wsX11_teach := goodIn_cons gq_X11_teach_h (goodIn_app (goodIn_app (goodIn_app (goodIn_app (goodIn_app (goodIn_app (goodIn_app (goodIn_app (goodIn_app (goodIn_app (goodIn_app gq_X11_teach_r1 (goodIn_app gq_X11_teach_r2 (goodIn_app gq_X11_teach_r3 (goodIn_app gq_X11_teach_r4 (goodIn_app gq_X11_teach_r5 (goodIn_app gq_X11_teach_r6 (goodIn_app gq_X11_teach_r7 (goodIn_app gq_X11_teach_r8 (goodIn_app gq_X11_teach_r9 (goodIn_app gq_X11_teach_r10 (goodIn_app gq_X11_teach_r11 (goodIn_app gq_X11_teach_r12 (goodIn_app gq_X11_teach_r13 (goodIn_app gq_X11_teach_r14 (goodIn_app gq_X11_teach_r15 (goodIn_app gq_X11_teach_r16 gq_X11_teach_r17)))))))))))))))) gq_X110) gq_X60) gq_X100) gq_X70) gq_X40) gq_X90) gq_X30) gq_X10) gq_X20) gq_X50)
set_option maxRecDepth 20000 in
theorem gL_law_X11_teach : GoodIn wsL_law (wsV RL 85 RX11 yX11_teach wsX11_teach) := goodIn_app (goodIn_rr lwB_in _ [(8, 22), (8, 23), (9, 0), (0, 2)] (by decide +kernel) (by decide +kernel)) ggL_law_X11_teach
