/-! The words of what the law calls, 3 (written by law99h.py) -/
set_option maxRecDepth 20000 in
theorem ggL_law_L_shore_wsJ40 : GoodIn wsL_law wsJ40 := goodIn_sub (lwB_x (k := 42) rfl) (by decide +kernel)
set_option maxRecDepth 20000 in
theorem ggL_law_L_shore_wsJ00 : GoodIn wsL_law wsJ00 := goodIn_sub (lwB_x (k := 45) rfl) (by decide +kernel)
set_option maxRecDepth 20000 in
theorem ggL_law_L_shore : GoodIn wsL_law wsL_shore := goodIn_c1 ggL_law_L_shore_c (goodIn_app (goodIn_app (goodIn_app (goodIn_app ggL_law_L_shore_wsL_shore_r1 (goodIn_app ggL_law_L_shore_wsL_shore_r2 (goodIn_app ggL_law_L_shore_wsL_shore_r3 (goodIn_app ggL_law_L_shore_wsL_shore_r4 (goodIn_app ggL_law_L_shore_wsL_shore_r5 (goodIn_app ggL_law_L_shore_wsL_shore_r6 (goodIn_app ggL_law_L_shore_wsL_shore_r7 (goodIn_app ggL_law_L_shore_wsL_shore_r8 (goodIn_app ggL_law_L_shore_wsL_shore_r9 (goodIn_app ggL_law_L_shore_wsL_shore_r10 (goodIn_app ggL_law_L_shore_wsL_shore_r11 ggL_law_L_shore_wsL_shore_r12))))))))))) ggL_law_L_shore_wsX120) ggL_law_L_shore_wsJ40) ggL_law_L_shore_wsJ00)
set_option maxRecDepth 20000 in
theorem gL_law_L_shore : GoodIn wsL_law (va_wsS RL 194 yL_shore wsL_shore) := goodIn_app (goodIn_of _ (by decide +kernel)) ggL_law_L_shore
set_option maxRecDepth 20000 in
theorem ggL_law_X11_init_c : GoodIn wsL_law [.code yX11_init cX11_init 1 none] := goodIn_rr lwB_in _ [(12, 4)] (by decide +kernel) (by decide +kernel)
set_option maxRecDepth 20000 in
theorem ggL_law_X11_init_wsX11_init_r1 : GoodIn wsL_law wsX11_init_r1 := goodIn_rr lwB_in _ [(12, 5), (0, 20), (0, 21), (12, 6), (12, 7), (12, 8), (12, 9), (12, 10), (12, 11), (12, 12), (12, 13), (12, 14), (12, 15), (12, 16), (12, 17), (12, 18), (12, 19), (0, 23), (12, 20), (12, 21), (12, 22), (0, 7), (12, 23), (13, 0)] (by decide +kernel) (by decide +kernel)
set_option maxRecDepth 20000 in
theorem ggL_law_X11_init_wsX11_init_r2 : GoodIn wsL_law wsX11_init_r2 := goodIn_rr lwB_in _ [(13, 1), (13, 2), (13, 3), (13, 4), (13, 5), (13, 6), (13, 7), (13, 8), (13, 9), (13, 10), (13, 11), (13, 12), (13, 13), (13, 14), (13, 15), (13, 16), (13, 17), (13, 18), (13, 19), (13, 20), (13, 21), (13, 22), (13, 23), (14, 0)] (by decide +kernel) (by decide +kernel)
set_option maxRecDepth 20000 in
theorem ggL_law_X11_init_wsX11_init_r3 : GoodIn wsL_law wsX11_init_r3 := goodIn_rr lwB_in _ [(14, 1), (14, 2), (14, 3), (14, 4), (14, 5), (14, 6), (14, 7), (14, 8), (14, 9), (14, 10), (14, 11), (14, 12), (14, 13), (14, 14), (14, 15), (14, 16), (14, 17), (14, 18), (14, 19), (14, 20), (14, 21), (14, 22), (14, 23), (15, 0)] (by decide +kernel) (by decide +kernel)
set_option maxRecDepth 20000 in
theorem ggL_law_X11_init_wsX11_init_r4 : GoodIn wsL_law wsX11_init_r4 := goodIn_rr lwB_in _ [(15, 1), (15, 2), (15, 3), (15, 4), (15, 5), (15, 6), (15, 7), (15, 8), (15, 9), (15, 10), (15, 11)] (by decide +kernel) (by decide +kernel)
set_option maxRecDepth 20000 in
theorem ggL_law_X11_init_wsX100 : GoodIn wsL_law wsX100 := goodIn_sub (lwB_x (k := 46) rfl) (by decide +kernel)
set_option maxRecDepth 20000 in
theorem ggL_law_X11_init_wsX110 : GoodIn wsL_law wsX110 := goodIn_sub (lwB_x (k := 43) rfl) (by decide +kernel)
set_option maxRecDepth 20000 in
theorem ggL_law_X11_init_wsX70 : GoodIn wsL_law wsX70 := goodIn_sub (lwB_x (k := 47) rfl) (by decide +kernel)
set_option maxRecDepth 20000 in
theorem ggL_law_X11_init_wsX90 : GoodIn wsL_law wsX90 := goodIn_sub (lwB_x (k := 48) rfl) (by decide +kernel)
set_option maxRecDepth 20000 in
theorem ggL_law_X11_init_wsX30 : GoodIn wsL_law wsX30 := goodIn_sub (lwB_x (k := 49) rfl) (by decide +kernel)
set_option maxRecDepth 20000 in
theorem ggL_law_X11_init_wsX10 : GoodIn wsL_law wsX10 := goodIn_sub (lwB_x (k := 50) rfl) (by decide +kernel)
set_option maxRecDepth 20000 in
theorem ggL_law_X11_init_wsX50 : GoodIn wsL_law wsX50 := goodIn_sub (lwB_x (k := 51) rfl) (by decide +kernel)
set_option maxRecDepth 20000 in
theorem ggL_law_X11_init_wsX20 : GoodIn wsL_law wsX20 := goodIn_sub (lwB_x (k := 52) rfl) (by decide +kernel)
set_option maxRecDepth 20000 in
theorem ggL_law_X11_init : GoodIn wsL_law wsX11_init := goodIn_c1 ggL_law_X11_init_c (goodIn_app (goodIn_app (goodIn_app (goodIn_app (goodIn_app (goodIn_app (goodIn_app (goodIn_app (goodIn_app ggL_law_X11_init_wsX11_init_r1 (goodIn_app ggL_law_X11_init_wsX11_init_r2 (goodIn_app ggL_law_X11_init_wsX11_init_r3 ggL_law_X11_init_wsX11_init_r4))) ggL_law_X11_init_wsX100) ggL_law_X11_init_wsX110) ggL_law_X11_init_wsX70) ggL_law_X11_init_wsX90) ggL_law_X11_init_wsX30) ggL_law_X11_init_wsX10) ggL_law_X11_init_wsX50) ggL_law_X11_init_wsX20)
set_option maxRecDepth 20000 in
theorem gL_law_X11_init : GoodIn wsL_law (wsX11_init) := ggL_law_X11_init
set_option maxRecDepth 20000 in
theorem ggL_law_J4_toString_0e30d : GoodIn wsL_law wsJ4_toString_0e30d := goodIn_2 24 (goodIn_rr lwB_in _ [(9, 23), (10, 0), (10, 1), (6, 3), (10, 2), (10, 3), (10, 4), (10, 5), (10, 6), (10, 7), (10, 8), (0, 20), (0, 21), (7, 1), (6, 19), (7, 0), (10, 9), (10, 10), (10, 11), (10, 12), (10, 13), (0, 17), (10, 14), (1, 0)] (by decide +kernel) (by decide +kernel)) (goodIn_2 24 (goodIn_rr lwB_in _ [(10, 15), (10, 16), (10, 17), (10, 18), (10, 19), (0, 2), (10, 20), (10, 21), (3, 9), (10, 22), (10, 23), (3, 12), (11, 0), (5, 11), (5, 12), (5, 13), (5, 14), (0, 22), (1, 1), (11, 1), (11, 2), (4, 19), (11, 3), (4, 21)] (by decide +kernel) (by decide +kernel)) (goodIn_2 24 (goodIn_rr lwB_in _ [(4, 22), (4, 23), (5, 0), (5, 1), (5, 2), (11, 4), (11, 5), (11, 6), (0, 23), (5, 3), (5, 4), (4, 11), (5, 5), (5, 6), (5, 7), (5, 8), (5, 9), (11, 7), (11, 8), (11, 9), (11, 10), (11, 11), (1, 4), (11, 12)] (by decide +kernel) (by decide +kernel)) (goodIn_2 24 (goodIn_rr lwB_in _ [(11, 13), (11, 14), (11, 15), (8, 1), (8, 2), (8, 3), (5, 22), (5, 23), (6, 0), (8, 4), (8, 5), (8, 6), (6, 5), (8, 7), (8, 8), (6, 8), (8, 9), (11, 16), (11, 17), (11, 18), (5, 18), (6, 13), (6, 14), (1, 6)] (by decide +kernel) (by decide +kernel)) (goodIn_rr lwB_in _ [(1, 7), (1, 8), (1, 9), (11, 19), (11, 20), (11, 21), (11, 22), (45, 0), (45, 1), (45, 2), (45, 3), (42, 0), (42, 1), (42, 2), (42, 3)] (by decide +kernel) (by decide +kernel)))))
set_option maxRecDepth 20000 in
theorem gL_law_J4_toString_0e30d : GoodIn wsL_law (wsV RL 50 RJ4 yJ4_toString_0e30d wsJ4_toString_0e30d) := goodIn_app (goodIn_of _ (by decide +kernel)) ggL_law_J4_toString_0e30d
set_option maxRecDepth 20000 in
theorem ggL_law_L_taught_c : GoodIn wsL_law [.code yL_taught cL_taught 5 (some .int)] := goodIn_rr lwB_in _ [(15, 14)] (by decide +kernel) (by decide +kernel)
set_option maxRecDepth 20000 in
theorem ggL_law_L_taught_wsL_taught_r1 : GoodIn wsL_law wsL_taught_r1 := goodIn_rr lwB_in _ [(0, 7), (15, 15), (15, 16), (15, 17), (0, 5), (15, 18), (15, 19), (15, 20), (12, 9), (15, 21), (15, 22), (6, 16), (6, 17), (6, 3), (6, 18), (6, 19), (6, 20), (6, 21), (6, 22), (6, 23), (7, 0), (7, 1), (15, 23), (16, 0)] (by decide +kernel) (by decide +kernel)
set_option maxRecDepth 20000 in
theorem ggL_law_L_taught_wsL_taught_r2 : GoodIn wsL_law wsL_taught_r2 := goodIn_rr lwB_in _ [(16, 1), (16, 2), (16, 3), (16, 4), (16, 5), (16, 6), (16, 7), (16, 8), (7, 20), (16, 9), (16, 10), (16, 11), (16, 12), (6, 5), (16, 13), (16, 14), (6, 8), (16, 15), (16, 16), (16, 17), (1, 4), (16, 18), (16, 19), (16, 20)] (by decide +kernel) (by decide +kernel)
set_option maxRecDepth 20000 in
theorem ggL_law_L_taught_wsL_taught_r3 : GoodIn wsL_law wsL_taught_r3 := goodIn_rr lwB_in _ [(16, 21), (5, 22), (5, 23), (6, 0), (16, 22), (11, 16), (11, 17), (11, 18), (5, 18), (6, 13), (6, 14), (16, 23), (17, 0), (17, 1), (17, 2), (17, 3), (17, 4), (17, 5), (17, 6), (17, 7), (12, 8), (17, 8), (17, 9), (12, 20)] (by decide +kernel) (by decide +kernel)
set_option maxRecDepth 20000 in
theorem ggL_law_L_taught_wsL_taught_r4 : GoodIn wsL_law wsL_taught_r4 := goodIn_rr lwB_in _ [(17, 10), (17, 11), (17, 12), (17, 13), (17, 14), (17, 15), (17, 16), (12, 14), (17, 17), (12, 15), (12, 13), (17, 18), (17, 19), (17, 20), (17, 21), (17, 22), (17, 23), (18, 0), (12, 23), (12, 22), (18, 1), (13, 2), (18, 2), (18, 3)] (by decide +kernel) (by decide +kernel)
set_option maxRecDepth 20000 in
theorem ggL_law_L_taught_wsL_taught_r5 : GoodIn wsL_law wsL_taught_r5 := goodIn_rr lwB_in _ [(18, 4), (18, 5), (18, 6), (18, 7), (18, 8), (18, 9), (18, 10), (18, 11), (18, 12), (18, 13), (18, 14), (18, 15), (18, 16), (18, 17), (18, 18), (18, 19), (18, 20), (18, 21), (18, 22), (13, 1), (18, 23), (19, 0), (19, 1), (19, 2)] (by decide +kernel) (by decide +kernel)
set_option maxRecDepth 20000 in
theorem ggL_law_L_taught_wsL_taught_r6 : GoodIn wsL_law wsL_taught_r6 := goodIn_rr lwB_in _ [(19, 3), (19, 4), (19, 5), (19, 6), (19, 7), (19, 8), (19, 9), (19, 10), (19, 11), (19, 12), (19, 13), (19, 14), (19, 15), (19, 16), (19, 17), (19, 18), (19, 19), (19, 20), (19, 21), (19, 22), (19, 23), (20, 0), (20, 1), (20, 2)] (by decide +kernel) (by decide +kernel)
set_option maxRecDepth 20000 in
theorem ggL_law_L_taught_wsL_taught_r7 : GoodIn wsL_law wsL_taught_r7 := goodIn_rr lwB_in _ [(20, 3), (20, 4), (0, 20), (0, 21), (20, 5), (20, 6), (20, 7), (20, 8), (20, 9), (20, 10), (20, 11), (20, 12), (20, 13), (20, 14), (20, 15), (20, 16), (20, 17), (20, 18), (4, 10), (4, 11), (4, 12), (13, 0), (20, 19), (20, 20)] (by decide +kernel) (by decide +kernel)
set_option maxRecDepth 20000 in
theorem ggL_law_L_taught_wsL_taught_r8 : GoodIn wsL_law wsL_taught_r8 := goodIn_rr lwB_in _ [(20, 21), (20, 22), (20, 23), (21, 0), (21, 1), (21, 2), (21, 3), (21, 4), (21, 5), (21, 6), (21, 7), (21, 8), (12, 12), (21, 9), (21, 10), (21, 11), (21, 12), (21, 13), (13, 19), (21, 14), (21, 15), (21, 16), (21, 17), (21, 18)] (by decide +kernel) (by decide +kernel)
set_option maxRecDepth 20000 in
theorem ggL_law_L_taught_wsL_taught_r9 : GoodIn wsL_law wsL_taught_r9 := goodIn_rr lwB_in _ [(21, 19), (21, 20), (21, 21), (21, 22), (21, 23), (22, 0), (22, 1), (22, 2), (22, 3), (22, 4), (22, 5), (22, 6), (22, 7), (22, 8), (22, 9), (22, 10), (22, 11), (22, 12), (22, 13), (22, 14), (22, 15), (22, 16), (22, 17), (22, 18)] (by decide +kernel) (by decide +kernel)
set_option maxRecDepth 20000 in
theorem ggL_law_L_taught_wsL_taught_r10 : GoodIn wsL_law wsL_taught_r10 := goodIn_rr lwB_in _ [(22, 19), (22, 20), (22, 21), (22, 22), (22, 23), (23, 0), (23, 1), (23, 2), (23, 3), (23, 4), (23, 5), (23, 6), (23, 7), (23, 8), (23, 9), (23, 10), (23, 11), (23, 12), (23, 13), (23, 14), (23, 15), (23, 16), (5, 4), (5, 5)] (by decide +kernel) (by decide +kernel)
set_option maxRecDepth 20000 in
theorem ggL_law_L_taught_wsL_taught_r11 : GoodIn wsL_law wsL_taught_r11 := goodIn_rr lwB_in _ [(13, 9), (14, 1), (23, 17), (23, 18), (23, 19), (14, 0), (23, 20), (23, 21), (23, 22), (23, 23), (14, 22), (24, 0), (24, 1), (24, 2), (24, 3), (24, 4), (24, 5), (24, 6), (24, 7), (24, 8), (24, 9), (24, 10), (24, 11), (24, 12)] (by decide +kernel) (by decide +kernel)
set_option maxRecDepth 20000 in
theorem ggL_law_L_taught_wsL_taught_r12 : GoodIn wsL_law wsL_taught_r12 := goodIn_rr lwB_in _ [(24, 13), (24, 14), (24, 15), (24, 16), (24, 17), (24, 18), (24, 19), (24, 20), (24, 21), (24, 22), (24, 23), (25, 0), (25, 1), (13, 11), (14, 4), (25, 2), (25, 3), (25, 4), (14, 3), (25, 5), (25, 6), (25, 7), (25, 8), (25, 9)] (by decide +kernel) (by decide +kernel)
set_option maxRecDepth 20000 in
theorem ggL_law_L_taught_wsL_taught_r13 : GoodIn wsL_law wsL_taught_r13 := goodIn_rr lwB_in _ [(25, 10), (25, 11), (15, 2), (25, 12), (25, 13), (25, 14), (15, 3), (25, 15), (25, 16), (25, 17), (25, 18), (25, 19), (25, 20), (25, 21), (25, 22), (25, 23), (26, 0), (26, 1), (26, 2), (26, 3), (26, 4), (26, 5), (26, 6), (26, 7)] (by decide +kernel) (by decide +kernel)
set_option maxRecDepth 20000 in
theorem ggL_law_L_taught_wsL_taught_r14 : GoodIn wsL_law wsL_taught_r14 := goodIn_rr lwB_in _ [(26, 8), (13, 13), (26, 9), (26, 10), (26, 11), (26, 12), (26, 13), (26, 14), (26, 15), (26, 16), (26, 17), (26, 18), (26, 19), (26, 20), (26, 21), (26, 22), (26, 23), (13, 18), (27, 0), (27, 1), (14, 15), (14, 16), (27, 2), (27, 3)] (by decide +kernel) (by decide +kernel)
set_option maxRecDepth 20000 in
theorem ggL_law_L_taught_wsL_taught_r15 : GoodIn wsL_law wsL_taught_r15 := goodIn_rr lwB_in _ [(27, 4), (27, 5), (27, 6), (27, 7), (27, 8), (27, 9), (27, 10), (27, 11), (27, 12), (27, 13), (27, 14), (27, 15), (27, 16), (27, 17), (27, 18), (27, 19), (27, 20), (27, 21), (27, 22), (27, 23), (28, 0), (28, 1), (28, 2), (28, 3)] (by decide +kernel) (by decide +kernel)
set_option maxRecDepth 20000 in
theorem ggL_law_L_taught_wsL_taught_r16 : GoodIn wsL_law wsL_taught_r16 := goodIn_rr lwB_in _ [(28, 4), (28, 5), (28, 6), (28, 7), (28, 8), (28, 9), (28, 10), (28, 11), (28, 12), (28, 13), (28, 14), (28, 15), (28, 16), (28, 17), (28, 18), (28, 19), (28, 20), (28, 21), (28, 22), (28, 23), (29, 0), (29, 1), (29, 2), (29, 3)] (by decide +kernel) (by decide +kernel)
set_option maxRecDepth 20000 in
theorem ggL_law_L_taught_wsL_taught_r17 : GoodIn wsL_law wsL_taught_r17 := goodIn_rr lwB_in _ [(13, 15), (14, 7), (29, 4), (29, 5), (29, 6), (14, 6), (29, 7), (15, 7), (29, 8), (29, 9), (29, 10), (29, 11), (29, 12), (29, 13), (15, 8), (29, 14), (29, 15), (29, 16), (29, 17), (29, 18), (29, 19), (29, 20), (29, 21), (29, 22)] (by decide +kernel) (by decide +kernel)
set_option maxRecDepth 20000 in
theorem ggL_law_L_taught_wsL_taught_r18 : GoodIn wsL_law wsL_taught_r18 := goodIn_rr lwB_in _ [(29, 23), (30, 0), (30, 1)] (by decide +kernel) (by decide +kernel)
set_option maxRecDepth 20000 in
theorem ggL_law_L_taught_wsX110 : GoodIn wsL_law wsX110 := goodIn_sub (lwB_x (k := 43) rfl) (by decide +kernel)
set_option maxRecDepth 20000 in
theorem ggL_law_L_taught_wsX100 : GoodIn wsL_law wsX100 := goodIn_sub (lwB_x (k := 46) rfl) (by decide +kernel)
set_option maxRecDepth 20000 in
theorem ggL_law_L_taught_wsJ00 : GoodIn wsL_law wsJ00 := goodIn_sub (lwB_x (k := 45) rfl) (by decide +kernel)
set_option maxRecDepth 20000 in
theorem ggL_law_L_taught_wsX60 : GoodIn wsL_law wsX60 := goodIn_sub (lwB_x (k := 53) rfl) (by decide +kernel)
set_option maxRecDepth 20000 in
theorem ggL_law_L_taught_wsX70 : GoodIn wsL_law wsX70 := goodIn_sub (lwB_x (k := 47) rfl) (by decide +kernel)
set_option maxRecDepth 20000 in
theorem ggL_law_L_taught_wsX40 : GoodIn wsL_law wsX40 := goodIn_sub (lwB_x (k := 54) rfl) (by decide +kernel)
set_option maxRecDepth 20000 in
theorem ggL_law_L_taught_wsX90 : GoodIn wsL_law wsX90 := goodIn_sub (lwB_x (k := 48) rfl) (by decide +kernel)
set_option maxRecDepth 20000 in
theorem ggL_law_L_taught_wsX30 : GoodIn wsL_law wsX30 := goodIn_sub (lwB_x (k := 49) rfl) (by decide +kernel)
set_option maxRecDepth 20000 in
theorem ggL_law_L_taught_wsX10 : GoodIn wsL_law wsX10 := goodIn_sub (lwB_x (k := 50) rfl) (by decide +kernel)
set_option maxRecDepth 20000 in
theorem ggL_law_L_taught_wsX20 : GoodIn wsL_law wsX20 := goodIn_sub (lwB_x (k := 52) rfl) (by decide +kernel)
set_option maxRecDepth 20000 in
theorem ggL_law_L_taught_wsX50 : GoodIn wsL_law wsX50 := goodIn_sub (lwB_x (k := 51) rfl) (by decide +kernel)
set_option maxRecDepth 20000 in
theorem ggL_law_L_taught : GoodIn wsL_law wsL_taught := goodIn_ca (goodIn_ca (goodIn_c1 ggL_law_L_taught_c (goodIn_app (goodIn_app (goodIn_app (goodIn_app (goodIn_app (goodIn_app (goodIn_app (goodIn_app (goodIn_app (goodIn_app (goodIn_app (goodIn_app ggL_law_L_taught_wsL_taught_r1 (goodIn_app ggL_law_L_taught_wsL_taught_r2 (goodIn_app ggL_law_L_taught_wsL_taught_r3 (goodIn_app ggL_law_L_taught_wsL_taught_r4 (goodIn_app ggL_law_L_taught_wsL_taught_r5 (goodIn_app ggL_law_L_taught_wsL_taught_r6 (goodIn_app ggL_law_L_taught_wsL_taught_r7 (goodIn_app ggL_law_L_taught_wsL_taught_r8 (goodIn_app ggL_law_L_taught_wsL_taught_r9 (goodIn_app ggL_law_L_taught_wsL_taught_r10 (goodIn_app ggL_law_L_taught_wsL_taught_r11 (goodIn_app ggL_law_L_taught_wsL_taught_r12 (goodIn_app ggL_law_L_taught_wsL_taught_r13 (goodIn_app ggL_law_L_taught_wsL_taught_r14 (goodIn_app ggL_law_L_taught_wsL_taught_r15 (goodIn_app ggL_law_L_taught_wsL_taught_r16 (goodIn_app ggL_law_L_taught_wsL_taught_r17 ggL_law_L_taught_wsL_taught_r18))))))))))))))))) ggL_law_L_taught_wsX110) ggL_law_L_taught_wsX100) ggL_law_L_taught_wsJ00) ggL_law_L_taught_wsX60) ggL_law_L_taught_wsX70) ggL_law_L_taught_wsX40) ggL_law_L_taught_wsX90) ggL_law_L_taught_wsX30) ggL_law_L_taught_wsX10) ggL_law_L_taught_wsX20) ggL_law_L_taught_wsX50)) (goodIn_sub (fun _ h => List.mem_append_left _ (List.mem_append_left _ (List.mem_append_right _ h))) (by decide +kernel))) (goodIn_sub (fun _ h => List.mem_append_left _ (List.mem_append_right _ h)) (by decide +kernel))
set_option maxRecDepth 20000 in
theorem gL_law_L_taught : GoodIn wsL_law (va_wsS RL 199 yL_taught wsL_taught) := goodIn_app (goodIn_of _ (by decide +kernel)) ggL_law_L_taught
theorem k_L_law_f155 : Cond.fieldLink RL 155 "TideLotsLaw$Sim" "goes" "I" ∈ wsL_law := lwB_x (k := 0) rfl _ (List.mem_of_getElem? (i := 10) rfl)
theorem i_L_law_X12 : ∀ w ∈ u_ws RX12 TX12 20, w ∈ wsL_law := lwB_x (ws := wsX120) (k := 44) rfl
theorem k_L_law_f158 : Cond.fieldLink RL 158 "TideLotsLaw$Sim" "go" "[[I" ∈ wsL_law := lwB_x (k := 0) rfl _ (List.mem_of_getElem? (i := 11) rfl)
theorem k_L_law_f181 : Cond.fieldLink RL 181 "TideLotsLaw$Sim" "member" "[[I" ∈ wsL_law := lwB_x (k := 0) rfl _ (List.mem_of_getElem? (i := 9) rfl)
theorem k_L_law_acint : Cond.arrayClass .int ∈ wsL_law := lwB_x (k := 0) rfl _ (List.mem_of_getElem? (i := 7) rfl)
theorem k_L_law_acboolean : Cond.arrayClass .boolean ∈ wsL_law := lwB_x (k := 0) rfl _ (List.mem_of_getElem? (i := 8) rfl)
theorem k_L_law_cl212 : Cond.classLink RL 212 "[[I" ∈ wsL_law := lwB_x (k := 0) rfl _ (List.mem_of_getElem? (i := 6) rfl)
theorem i_L_law_J4 : ∀ w ∈ u_ws RJ4 TJ4 4, w ∈ wsL_law := lwB_x (ws := wsJ40) (k := 42) rfl
theorem k_L_law_cl32 : Cond.classLink RL 32 RJ4 ∈ wsL_law := lwB_x (k := 0) rfl _ (List.mem_of_getElem? (i := 0) rfl)
theorem k_L_law_inJ4 : Cond.instantiable RJ4 4 ∈ wsL_law := lwB_x (k := 0) rfl _ (List.mem_of_getElem? (i := 1) rfl)
theorem k_L_law_iiJ4 : Cond.initialized RJ4 ∈ wsL_law := lwB_x (k := 0) rfl _ (List.mem_of_getElem? (i := 2) rfl)
theorem k_L_law_ml34 : Cond.methodLink RL 34 yJ4_init_da8c8 ∈ wsL_law := lwB_x (k := 0) rfl _ (List.mem_of_getElem? (i := 12) rfl)
theorem k_L_law_imJ4_init_da8c8 : Cond.instanceMethod yJ4_init_da8c8 ∈ wsL_law := lwB_x (k := 0) rfl _ (List.mem_of_getElem? (i := 13) rfl)
theorem i_L_law_X11 : ∀ w ∈ u_ws RX11 TX11 4, w ∈ wsL_law := lwB_x (ws := wsX110) (k := 43) rfl
theorem k_L_law_cl10 : Cond.classLink RL 10 RX11 ∈ wsL_law := lwB_x (k := 0) rfl _ (List.mem_of_getElem? (i := 3) rfl)
theorem k_L_law_inX11 : Cond.instantiable RX11 4 ∈ wsL_law := lwB_x (k := 0) rfl _ (List.mem_of_getElem? (i := 4) rfl)
theorem k_L_law_iiX11 : Cond.initialized RX11 ∈ wsL_law := lwB_x (k := 0) rfl _ (List.mem_of_getElem? (i := 5) rfl)
theorem k_L_law_ml198 : Cond.methodLink RL 198 yX11_init ∈ wsL_law := lwB_x (k := 12) rfl _ (List.mem_of_getElem? (i := 2) rfl)
theorem k_L_law_imX11_init : Cond.instanceMethod yX11_init ∈ wsL_law := lwB_x (k := 12) rfl _ (List.mem_of_getElem? (i := 3) rfl)
